/** Promises 1 to 9: a new object, rooms and maps. */
public final class RoomsTest {
    public static void main(String[] args) {
        newObject();
        makeRoom();
        makeRoomThrows();
        lineCounts();
        lineThrows();
        lineThrowsWhenFull();
        writeMapThrows();
        writeMapRefusesOverlaps();
        writeMapTakesNeighbours();
        writeMapRefusesInOrder();
        writeMapLeadsNowhere();
        writeMapByOwner();
        writeMapByOwnerOfTheOuterRoom();
        writeMapByRight();
        roomsAndOuter();
        leadsTo();
        seen();
        Check.end();
    }

    private static void newObject() {
        RoomNumbers x = new RoomNumbers();
        Check.due("rooms of a new object", 1, x.rooms());
        Check.due("processes of a new object", 1, x.processes());
        Check.due("files of a new object", 0, x.files());
        Check.due("refusals of a new object", 0, x.refusals());
        Check.due("last refusal of a new object", 0, x.lastRefusal());
        Check.due("room of the process 0", 0, x.roomOf(0));
        Check.due("number of the process 0", 0, x.numberOf(0));
        Check.due("rights of the process 0", 15, x.rightsIn(0, 0));
        Check.due("a draft has no line at first", 1, x.line(0, 0, 1));
    }

    private static void makeRoom() {
        RoomNumbers x = new RoomNumbers();
        x.fork(0);
        x.fork(0);
        x.setNumber(1, 7);
        Check.due("no rights are left in the room 0", 0, x.rightsIn(1, 0));
        Check.due("makeRoom", 1, x.makeRoom(1));
        Check.due("the maker is in the new room", 1, x.roomOf(1));
        Check.due("the maker has all rights there", 15, x.rightsIn(1, 1));
        Check.due("the maker keeps its number", 7, x.numberOf(1));
        Check.due("another process stays where it is", 0, x.roomOf(2));
        Check.due("makeRoom inside", 2, x.makeRoom(1));
        Check.due("outer room", 1, x.outerOf(2));
        Check.due("makeRoom in the room 0", 3, x.makeRoom(2));
        Check.due("outer room 0", 0, x.outerOf(3));
        x.fork(0);
        x.setNumber(3, 7);
        Check.due("the maker's number is that of the owner", 15, x.rightsIn(3, 1));
        Check.due("another number is not that of the owner", 0, x.rightsIn(3, 3));
        Check.due("rooms", 4, x.rooms());
        Check.due("refusals", 0, x.refusals());
    }

    private static void makeRoomThrows() {
        RoomNumbers x = new RoomNumbers();
        Check.noSuch("makeRoom(-1)", () -> x.makeRoom(-1));
        Check.noSuch("makeRoom(1)", () -> x.makeRoom(1));
        Check.noSuch("makeRoom(12)", () -> x.makeRoom(12));
        Check.noSuch("makeRoom(MAX)", () -> x.makeRoom(Integer.MAX_VALUE));
        Check.noSuch("makeRoom(MIN)", () -> x.makeRoom(Integer.MIN_VALUE));
        Check.due("rooms after exceptions", 1, x.rooms());
        for (int room = 1; room < 10; room++) {
            Check.due("makeRoom", room, x.makeRoom(0));
            Check.due("outerOf", room - 1, x.outerOf(room));
        }
        x.drop(0, 6);
        Check.full("makeRoom with 10 rooms", () -> x.makeRoom(0));
        Check.noSuch("makeRoom of no process with 10 rooms", () -> x.makeRoom(1));
        Check.due("rooms", 10, x.rooms());
        Check.due("room of the process", 9, x.roomOf(0));
        Check.due("rights of the process", 9, x.rightsIn(0, 9));
        Check.due("refusals", 0, x.refusals());
    }

    private static void lineCounts() {
        RoomNumbers x = Houses.withRoom();
        Check.due("first line", 1, x.line(0, 0, 999));
        Check.due("second line, which overlaps", 2, x.line(998, 998, 1));
        Check.due("third line", 3, x.line(500, 0, 499));
        Check.due("the draft is refused", -3, x.writeMap(1, 1));
        Check.due("the draft has no lines then", 1, x.line(0, 998, 1));
        Check.due("written", 1, x.writeMap(1, 1));
        Check.due("the draft has no lines after it was written", 1, x.line(1, 1, 1));
    }

    private static void lineThrows() {
        RoomNumbers x = new RoomNumbers();
        int least = Integer.MIN_VALUE;
        int most = Integer.MAX_VALUE;
        int[][] wrong = {
            {-1, 0, 1}, {-1, 0, 2}, {-5, 0, 9}, {999, 0, 1}, {least, 0, 1}, {most, 0, 1},
            {0, -1, 1}, {0, -1, 2}, {0, -5, 9}, {0, 999, 1}, {0, least, 1}, {0, most, 1},
            {0, 0, 0}, {0, 0, -1}, {0, 0, 1000}, {0, 0, least}, {0, 0, most},
            {998, 998, most}, {998, 998, least}, {998, 998, -998},
            {998, 0, 2}, {0, 998, 2}, {1, 0, 999}, {0, 1, 999}, {500, 0, 500}, {0, 500, 500},
        };
        for (int[] w : wrong) {
            String what = "line(" + w[0] + ", " + w[1] + ", " + w[2] + ")";
            Check.outOfRange(what, () -> x.line(w[0], w[1], w[2]));
        }
        Check.due("nothing was added", 1, x.line(500, 0, 499));
        Check.due("up to 998", 2, x.line(0, 500, 499));
        Check.due("refusals", 0, x.refusals());
    }

    private static void lineThrowsWhenFull() {
        RoomNumbers x = Houses.withRoom();
        x.line(0, 0, 1);
        x.line(1, 1, 1);
        x.line(2, 2, 1);
        Check.full("a fourth line", () -> x.line(3, 3, 1));
        Check.outOfRange("a fourth line that is out of range", () -> x.line(3, 3, 0));
        Check.due("the draft is as it was", 3, x.writeMap(1, 1));
        Check.due("no fourth line", -1, x.leadsTo(1, 3));
        Check.due("the third line", 2, x.leadsTo(1, 2));
    }

    private static void writeMapThrows() {
        RoomNumbers x = new RoomNumbers();
        x.fork(0);
        x.makeRoom(1);
        x.line(0, 20, 3);
        Check.noSuch("writeMap(0, 0)", () -> x.writeMap(0, 0));
        Check.noSuch("writeMap(0, -1)", () -> x.writeMap(0, -1));
        Check.noSuch("writeMap(0, 2)", () -> x.writeMap(0, 2));
        Check.noSuch("writeMap(0, 10)", () -> x.writeMap(0, 10));
        Check.noSuch("writeMap(-1, 1)", () -> x.writeMap(-1, 1));
        Check.noSuch("writeMap(2, 1)", () -> x.writeMap(2, 1));
        Check.noSuch("writeMap(12, 1)", () -> x.writeMap(12, 1));
        Check.due("refusals after exceptions", 0, x.refusals());
        Check.due("the draft stays after exceptions", 2, x.line(5, 30, 1));
        Check.due("writeMap", 2, x.writeMap(0, 1));
        Check.due("a number of the map", 22, x.leadsTo(1, 2));
    }

    private static void writeMapRefusesOverlaps() {
        int[][] drafts = {
            {0, 10, 5, 4, 20, 5},
            {4, 20, 5, 0, 10, 5},
            {0, 10, 5, 5, 14, 5},
            {5, 14, 5, 0, 10, 5},
            {0, 10, 9, 3, 50, 2},
            {0, 10, 2, 30, 5, 20},
            {7, 7, 1, 7, 8, 1},
            {7, 7, 1, 8, 7, 1},
        };
        for (int[] d : drafts) {
            RoomNumbers x = Houses.withRoom();
            x.line(d[0], d[1], d[2]);
            x.line(d[3], d[4], d[5]);
            Check.due("two lines that overlap", -3, x.writeMap(1, 1));
            Check.due("no map then", -1, x.leadsTo(1, d[0]));
            x.line(900, 900, 1);
            x.line(d[0], d[1], d[2]);
            x.line(d[3], d[4], d[5]);
            Check.due("the second and the third line overlap", -3, x.writeMap(1, 1));
            x.line(d[0], d[1], d[2]);
            x.line(900, 900, 1);
            x.line(d[3], d[4], d[5]);
            Check.due("the first and the third line overlap", -3, x.writeMap(1, 1));
            x.line(d[0], d[1], d[2]);
            x.line(d[3], d[4], d[5]);
            x.line(900, 900, 1);
            Check.due("the first and the second line overlap", -3, x.writeMap(1, 1));
            Check.due("no draft", -3, x.writeMap(1, 1));
            Check.due("refusals", 5, x.refusals());
            Check.due("last refusal", -3, x.lastRefusal());
        }
    }

    private static void writeMapTakesNeighbours() {
        RoomNumbers x = Houses.withRoom();
        x.line(10, 5, 5);
        x.line(5, 10, 5);
        x.line(0, 15, 5);
        Check.due("lines side by side", 3, x.writeMap(1, 1));
        Check.due("leadsTo the first", 5, x.leadsTo(1, 10));
        Check.due("leadsTo the second", 14, x.leadsTo(1, 9));
        Check.due("leadsTo the third", 15, x.leadsTo(1, 0));
    }

    private static void writeMapRefusesInOrder() {
        RoomNumbers x = new RoomNumbers();
        x.makeRoom(0);
        x.makeRoom(0);
        x.line(0, 0, 2);
        Check.due("nowhere is ahead of the right", -2, x.writeMap(0, 2));
        x.line(0, 0, 2);
        x.line(1, 9, 2);
        Check.due("overlaps are ahead of nowhere", -3, x.writeMap(0, 2));
        x.line(3, 40, 2);
        Check.due("the right is missing", -1, x.writeMap(0, 1));
        Check.due("no map after the refusal", -1, x.leadsTo(1, 3));
        x.line(0, 0, 1);
        x.writeMap(0, 1);
        Check.due("a map is ahead of a draft with no line", -4, x.writeMap(0, 1));
        x.line(0, 0, 1);
        x.line(0, 0, 1);
        Check.due("a map is ahead of overlaps", -4, x.writeMap(0, 1));
        Check.due("the draft is empty after -4", 1, x.line(0, 1, 1));
        Check.due("refusals", 5, x.refusals());
        Check.due("last refusal", -4, x.lastRefusal());
    }

    private static void writeMapLeadsNowhere() {
        RoomNumbers x = new RoomNumbers();
        x.fork(0);
        x.makeRoom(1);
        x.line(0, 100, 10);
        x.line(20, 200, 10);
        x.writeMap(0, 1);
        x.makeRoom(1);
        x.fork(0);
        x.enter(2, 1);
        x.line(0, 0, 11);
        Check.due("the last number leads nowhere", -2, x.writeMap(2, 2));
        x.line(0, 19, 2);
        Check.due("the first number leads nowhere", -2, x.writeMap(2, 2));
        x.line(0, 9, 12);
        Check.due("a number between leads nowhere", -2, x.writeMap(2, 2));
        x.line(50, 9, 1);
        x.line(0, 0, 5);
        x.line(60, 10, 1);
        Check.due("a number of the latest line leads nowhere", -2, x.writeMap(2, 2));
        x.line(60, 998, 1);
        x.line(0, 0, 5);
        Check.due("a number of the first line leads nowhere", -2, x.writeMap(2, 2));
        Check.due("the draft is empty after -2", 1, x.line(0, 0, 10));
        x.line(10, 20, 10);
        Check.due("all numbers lead out", 2, x.writeMap(2, 2));
        Check.due("leads through two maps", 209, x.leadsTo(2, 19));
        Check.due("refusals", 5, x.refusals());
    }

    private static void writeMapByOwner() {
        RoomNumbers x = new RoomNumbers();
        x.fork(0);
        x.setNumber(1, 5);
        x.fork(0);
        x.drop(2, 8);
        x.fork(1);
        x.makeRoom(1);
        x.line(0, 5, 2);
        Check.due("the owner, a line of two", -1, x.writeMap(1, 1));
        x.line(0, 4, 1);
        Check.due("the owner, another number", -1, x.writeMap(1, 1));
        x.line(0, 5, 1);
        x.line(9, 9, 1);
        Check.due("the owner, two lines", -1, x.writeMap(1, 1));
        x.line(9, 9, 1);
        x.line(0, 5, 1);
        Check.due("the owner, two lines the other way", -1, x.writeMap(1, 1));
        x.line(0, 5, 1);
        Check.due("not the owner, the owner's number", -1, x.writeMap(2, 1));
        x.line(0, 0, 1);
        Check.due("not the owner, its own number", -1, x.writeMap(2, 1));
        Check.due("no map so far", -1, x.leadsTo(1, 0));
        x.line(3, 5, 1);
        Check.due("the owner's number alone, from outside", 1, x.writeMap(3, 1));
        Check.due("the map", 5, x.leadsTo(1, 3));
        Check.due("refusals", 6, x.refusals());
        Check.due("makeRoom", 2, x.makeRoom(1));
        x.line(8, 3, 1);
        Check.due("the owner's number leads out through a map", 1, x.writeMap(1, 2));
        Check.due("the map inside", 5, x.leadsTo(2, 8));
    }

    private static void writeMapByOwnerOfTheOuterRoom() {
        RoomNumbers x = new RoomNumbers();
        x.fork(0);
        x.setNumber(1, 5);
        x.fork(1);
        x.makeRoom(1);
        x.line(0, 40, 9);
        x.writeMap(0, 1);
        x.makeRoom(1);
        x.line(0, 0, 5);
        Check.due("the process in the room 2 has no right outside", -1, x.writeMap(1, 2));
        x.line(0, 0, 5);
        Check.due("the owner of the outer room has its rights there", 1, x.writeMap(2, 2));
    }

    private static void writeMapByRight() {
        RoomNumbers x = new RoomNumbers();
        x.fork(0);
        x.fork(0);
        x.drop(2, 7);
        x.setNumber(1, 5);
        x.makeRoom(1);
        x.fork(1);
        x.line(0, 40, 9);
        Check.due("all rights in the room itself are not enough", -1, x.writeMap(3, 1));
        x.line(0, 40, 9);
        Check.due("SETNUMBER alone is enough", 1, x.writeMap(2, 1));
        x.makeRoom(1);
        x.line(0, 0, 2);
        Check.due("a right holds in the rooms inside", 1, x.writeMap(2, 2));
        Check.due("leads out", 41, x.leadsTo(2, 1));
    }

    private static void roomsAndOuter() {
        RoomNumbers x = new RoomNumbers();
        Check.due("outerOf(0)", RoomNumbers.NONE, x.outerOf(0));
        Check.noSuch("outerOf(1)", () -> x.outerOf(1));
        Check.noSuch("outerOf(-1)", () -> x.outerOf(-1));
        Check.noSuch("outerOf(10)", () -> x.outerOf(10));
        x.fork(0);
        x.makeRoom(0);
        x.makeRoom(1);
        x.makeRoom(1);
        Check.due("rooms", 4, x.rooms());
        Check.due("outerOf(1)", 0, x.outerOf(1));
        Check.due("outerOf(2)", 0, x.outerOf(2));
        Check.due("outerOf(3)", 2, x.outerOf(3));
        Check.noSuch("outerOf(4)", () -> x.outerOf(4));
    }

    private static void leadsTo() {
        RoomNumbers x = Houses.nested();
        Check.due("leadsTo(0, 0)", 0, x.leadsTo(0, 0));
        Check.due("leadsTo(0, 998)", 998, x.leadsTo(0, 998));
        Check.due("the first of a line", 100, x.leadsTo(1, 10));
        Check.due("the last of a line", 109, x.leadsTo(1, 19));
        Check.due("below a line", -1, x.leadsTo(1, 9));
        Check.due("above a line", -1, x.leadsTo(1, 20));
        Check.due("another line", 300, x.leadsTo(1, 0));
        Check.due("through two maps", 101, x.leadsTo(2, 500));
        Check.due("an outer number of the inner map is none of it", -1, x.leadsTo(2, 11));
        Check.due("a room without a map", -1, x.leadsTo(3, 0));
        Check.noSuch("leadsTo(4, 0)", () -> x.leadsTo(4, 0));
        Check.noSuch("leadsTo(-1, 999)", () -> x.leadsTo(-1, 999));
        Check.noSuch("leadsTo(10, -1)", () -> x.leadsTo(10, -1));
        Check.outOfRange("leadsTo(0, -1)", () -> x.leadsTo(0, -1));
        Check.outOfRange("leadsTo(0, 999)", () -> x.leadsTo(0, 999));
        Check.outOfRange("leadsTo(3, 999)", () -> x.leadsTo(3, 999));
        Check.due("refusals", 0, x.refusals());
    }

    private static void seen() {
        RoomNumbers x = Houses.nested();
        int[][] due = {
            {0, 0, 0}, {0, 998, 998},
            {1, 100, 10}, {1, 109, 19}, {1, 99, 999}, {1, 110, 999}, {1, 300, 0}, {1, 0, 999},
            {2, 101, 500}, {2, 102, 501}, {2, 100, 999}, {2, 103, 999}, {2, 300, 999},
            {3, 0, 999}, {3, 101, 999}, {3, 998, 999},
        };
        for (int[] d : due) {
            Check.due("seenAs(" + d[0] + ", " + d[1] + ")", d[2], x.seenAs(d[0], d[1]));
            Check.due("seenByLeading(" + d[0] + ", " + d[1] + ")", d[2],
                    x.seenByLeading(d[0], d[1]));
        }
        int[][] wrongRooms = {{-1, 0}, {4, 0}, {10, -1}, {4, 999}};
        for (int[] w : wrongRooms) {
            Check.noSuch("seenAs of no room", () -> x.seenAs(w[0], w[1]));
            Check.noSuch("seenByLeading of no room", () -> x.seenByLeading(w[0], w[1]));
        }
        int[][] wrongNumbers = {{0, -1}, {0, 999}, {3, 999}, {3, -1}, {1, Integer.MAX_VALUE}};
        for (int[] w : wrongNumbers) {
            Check.outOfRange("seenAs of no number", () -> x.seenAs(w[0], w[1]));
            Check.outOfRange("seenByLeading of no number", () -> x.seenByLeading(w[0], w[1]));
        }
        Check.due("refusals", 0, x.refusals());
    }

    private RoomsTest() {
    }
}
