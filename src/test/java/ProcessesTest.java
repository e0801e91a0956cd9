/** Promises 10 to 17: processes and their rights. */
public final class ProcessesTest {
    public static void main(String[] args) {
        fork();
        forkThrows();
        drop();
        dropThrows();
        enter();
        enterAsOwner();
        enterRefused();
        enterThrows();
        setNumberInTheRoomZero();
        setNumberThroughMaps();
        setNumberRefused();
        setNumberTakesRights();
        setNumberThrows();
        questionsThrow();
        rightsInRooms();
        rightsOfOwners();
        Check.end();
    }

    private static void fork() {
        RoomNumbers x = new RoomNumbers();
        x.makeRoom(0);
        x.line(3, 0, 1);
        x.writeMap(0, 1);
        x.drop(0, 6);
        Check.due("fork", 1, x.fork(0));
        Check.due("processes", 2, x.processes());
        Check.due("the same room", 1, x.roomOf(1));
        Check.due("the same number", 0, x.numberOf(1));
        Check.due("the same rights", 9, x.rightsIn(1, 1));
        x.drop(1, 1);
        Check.due("the first one keeps its rights", 9, x.rightsIn(0, 1));
        x.makeRoom(1);
        Check.due("the first one stays in its room", 1, x.roomOf(0));
        Check.due("fork of a fork", 2, x.fork(1));
        Check.due("in the room of that", 2, x.roomOf(2));
        Check.due("refusals", 0, x.refusals());
        RoomNumbers y = new RoomNumbers();
        y.setNumber(0, 41);
        Check.due("fork of another number", 1, y.fork(0));
        Check.due("the number", 41, y.numberOf(1));
        Check.due("no rights", 0, y.rightsIn(1, 0));
    }

    private static void forkThrows() {
        RoomNumbers x = new RoomNumbers();
        Check.noSuch("fork(1)", () -> x.fork(1));
        Check.noSuch("fork(-1)", () -> x.fork(-1));
        Check.due("processes after exceptions", 1, x.processes());
        for (int process = 1; process < 12; process++) {
            Check.due("fork", process, x.fork(0));
        }
        Check.full("fork with 12 processes", () -> x.fork(11));
        Check.noSuch("fork of no process with 12 processes", () -> x.fork(12));
        Check.due("processes", 12, x.processes());
        Check.due("refusals", 0, x.refusals());
    }

    private static void drop() {
        for (int held = 0; held <= 15; held++) {
            for (int dropped = 0; dropped <= 15; dropped++) {
                RoomNumbers x = new RoomNumbers();
                x.fork(0);
                Check.due("drop the others", held, x.drop(0, 15 - held));
                Check.due("drop", held & (15 - dropped), x.drop(0, dropped));
                Check.due("rights then", held & (15 - dropped), x.rightsIn(0, 0));
                Check.due("rights of another one", 15, x.rightsIn(1, 0));
            }
        }
    }

    private static void dropThrows() {
        RoomNumbers x = new RoomNumbers();
        Check.outOfRange("drop(0, 16)", () -> x.drop(0, 16));
        Check.outOfRange("drop(0, -1)", () -> x.drop(0, -1));
        Check.outOfRange("drop(0, 31)", () -> x.drop(0, 31));
        Check.noSuch("drop(1, 0)", () -> x.drop(1, 0));
        Check.noSuch("drop(1, 16)", () -> x.drop(1, 16));
        Check.noSuch("drop(-1, -1)", () -> x.drop(-1, -1));
        Check.due("rights after exceptions", 15, x.rightsIn(0, 0));
        Check.due("refusals", 0, x.refusals());
    }

    private static void enter() {
        RoomNumbers x = new RoomNumbers();
        for (int k = 0; k < 3; k++) {
            x.fork(0);
        }
        x.makeRoom(1);
        x.makeRoom(1);
        x.setNumber(2, 70);
        x.makeRoom(2);
        x.drop(3, 14);
        x.drop(0, 1);
        Check.due("with ADMIN, two rooms in", 15, x.enter(3, 2));
        Check.due("it is there then", 2, x.roomOf(3));
        Check.due("with all rights", 15, x.rightsIn(3, 2));
        Check.due("and its number", 0, x.numberOf(3));
        Check.due("without ADMIN, and no owner", -1, x.enter(0, 3));
        Check.due("without ADMIN, as the owner", 15, x.enter(0, 1));
        Check.due("rights then", 15, x.rightsIn(0, 1));
        Check.due("refusals", 1, x.refusals());
    }

    private static void enterAsOwner() {
        RoomNumbers x = new RoomNumbers();
        x.fork(0);
        x.setNumber(1, 5);
        x.fork(1);
        x.fork(1);
        x.makeRoom(1);
        x.makeRoom(1);
        Check.due("the owner enters a room inside its own one", 15, x.enter(2, 2));
        Check.due("the owner enters its room", 15, x.enter(3, 1));
        Check.due("it is there then", 1, x.roomOf(3));
        Check.due("with the same number", 5, x.numberOf(3));
    }

    private static void enterRefused() {
        RoomNumbers x = new RoomNumbers();
        x.fork(0);
        x.fork(0);
        x.makeRoom(1);
        x.makeRoom(2);
        x.drop(1, 4);
        Check.due("its own room", -5, x.enter(1, 1));
        Check.due("the outer room", -5, x.enter(1, 0));
        Check.due("a room beside", -5, x.enter(1, 2));
        Check.due("the room 0 from itself", -5, x.enter(0, 0));
        x.drop(1, 15);
        Check.due("not inside is ahead of the right", -5, x.enter(1, 2));
        Check.due("last refusal", -5, x.lastRefusal());
        x.fork(0);
        x.setNumber(3, 9);
        Check.due("the right is missing", -1, x.enter(3, 1));
        Check.due("last refusal", -1, x.lastRefusal());
        Check.due("it stays", 0, x.roomOf(3));
        Check.due("without rights", 0, x.rightsIn(3, 0));
        Check.due("the other one stays", 1, x.roomOf(1));
        Check.due("with the rights that it had", 0, x.rightsIn(1, 1));
        Check.due("refusals", 6, x.refusals());
        RoomNumbers y = new RoomNumbers();
        y.fork(0);
        y.makeRoom(0);
        y.setNumber(1, 9);
        y.fork(1);
        y.makeRoom(1);
        y.drop(1, 1);
        Check.due("another room is owned, not this one", -1, y.enter(2, 1));
        Check.due("the owned one", 15, y.enter(2, 2));
    }

    private static void enterThrows() {
        RoomNumbers x = new RoomNumbers();
        Check.noSuch("enter(0, 1)", () -> x.enter(0, 1));
        Check.noSuch("enter(0, -1)", () -> x.enter(0, -1));
        Check.noSuch("enter(0, 10)", () -> x.enter(0, 10));
        Check.noSuch("enter(1, 0)", () -> x.enter(1, 0));
        Check.noSuch("enter(-1, 0)", () -> x.enter(-1, 0));
        Check.due("refusals", 0, x.refusals());
        Check.due("last refusal", 0, x.lastRefusal());
    }

    private static void setNumberInTheRoomZero() {
        RoomNumbers x = new RoomNumbers();
        x.fork(0);
        x.fork(0);
        Check.due("its own number", 0, x.setNumber(0, 0));
        Check.due("rights are as they were", 15, x.rightsIn(0, 0));
        x.drop(1, 7);
        Check.due("SETNUMBER alone is enough", 998, x.setNumber(1, 998));
        Check.due("the number then", 998, x.numberOf(1));
        Check.due("no rights then", 0, x.rightsIn(1, 0));
        Check.due("the right is missing", -1, x.setNumber(1, 0));
        Check.due("its own number without the right", 998, x.setNumber(1, 998));
        x.drop(2, 8);
        Check.due("the other rights are not enough", -1, x.setNumber(2, 1));
        Check.due("rights after the refusal", 7, x.rightsIn(2, 0));
        Check.due("number after the refusal", 0, x.numberOf(2));
        Check.due("another process keeps its number", 0, x.numberOf(0));
        Check.due("refusals", 2, x.refusals());
    }

    private static void setNumberThroughMaps() {
        RoomNumbers x = Houses.mapped();
        Check.due("an unseen process takes a number", 103, x.setNumber(1, 3));
        Check.due("it was not seen as 0, and has its rights", 15, x.rightsIn(1, 1));
        Check.due("it takes 0", 100, x.setNumber(1, 0));
        Check.due("it was not seen as 0, and has its rights still", 15, x.rightsIn(1, 1));
        Check.due("it takes 0 again", 100, x.setNumber(1, 0));
        Check.due("the number is not another one", 15, x.rightsIn(1, 1));
        Check.due("it takes another one", 109, x.setNumber(1, 9));
        Check.due("it was seen as 0", 0, x.rightsIn(1, 1));
        Check.due("number", 109, x.numberOf(1));
    }

    private static void setNumberRefused() {
        RoomNumbers x = Houses.mapped();
        Check.due("above the line", -2, x.setNumber(1, 10));
        Check.due("an outermost number is none of the room", -2, x.setNumber(1, 103));
        x.drop(1, 8);
        Check.due("nowhere is ahead of the right", -2, x.setNumber(1, 998));
        Check.due("the right is missing", -1, x.setNumber(1, 3));
        Check.due("number", 0, x.numberOf(1));
        Check.due("rights", 7, x.rightsIn(1, 1));
        Check.due("refusals", 4, x.refusals());
        RoomNumbers y = new RoomNumbers();
        y.makeRoom(0);
        Check.due("a room without a map", -2, y.setNumber(0, 0));
        RoomNumbers z = new RoomNumbers();
        z.fork(0);
        z.makeRoom(1);
        z.drop(0, 8);
        Check.due("the owner of a room inside has no right outside", -1, z.setNumber(0, 1));
    }

    private static void setNumberTakesRights() {
        RoomNumbers x = Houses.mapped();
        x.fork(0);
        Check.due("0 takes another number in the room 0", 100, x.setNumber(2, 100));
        Check.due("and has no rights", 0, x.rightsIn(2, 0));
        Check.due("it is still the same number", 100, x.setNumber(2, 100));
        x.setNumber(1, 3);
        Check.due("3 is not 0", 104, x.setNumber(1, 4));
        Check.due("and keeps rights", 15, x.rightsIn(1, 1));
        x.drop(1, 2);
        Check.due("the rights that are left", 13, x.rightsIn(1, 1));
        x.setNumber(1, 0);
        Check.due("they are left still", 13, x.rightsIn(1, 1));
    }

    private static void setNumberThrows() {
        RoomNumbers x = new RoomNumbers();
        Check.outOfRange("setNumber(0, 999)", () -> x.setNumber(0, 999));
        Check.outOfRange("setNumber(0, -1)", () -> x.setNumber(0, -1));
        Check.noSuch("setNumber(1, 0)", () -> x.setNumber(1, 0));
        Check.noSuch("setNumber(1, 999)", () -> x.setNumber(1, 999));
        Check.noSuch("setNumber(-1, -1)", () -> x.setNumber(-1, -1));
        x.makeRoom(0);
        Check.outOfRange("setNumber(0, 999) in a room", () -> x.setNumber(0, 999));
        Check.due("number", 0, x.numberOf(0));
        Check.due("rights", 15, x.rightsIn(0, 1));
        Check.due("refusals", 0, x.refusals());
    }

    private static void questionsThrow() {
        RoomNumbers x = new RoomNumbers();
        x.fork(0);
        x.setNumber(1, 77);
        x.makeRoom(1);
        Check.due("processes", 2, x.processes());
        Check.due("roomOf(0)", 0, x.roomOf(0));
        Check.due("roomOf(1)", 1, x.roomOf(1));
        Check.due("numberOf(0)", 0, x.numberOf(0));
        Check.due("numberOf(1)", 77, x.numberOf(1));
        for (int none : new int[] {-1, 2, 11, 12, Integer.MAX_VALUE, Integer.MIN_VALUE}) {
            Check.noSuch("roomOf(" + none + ")", () -> x.roomOf(none));
            Check.noSuch("numberOf(" + none + ")", () -> x.numberOf(none));
            Check.noSuch("rightsIn(" + none + ", 0)", () -> x.rightsIn(none, 0));
            Check.noSuch("rightsIn(0, " + none + ")", () -> x.rightsIn(0, none));
        }
        Check.due("processes are as they were", 2, x.processes());
    }

    private static void rightsInRooms() {
        RoomNumbers x = new RoomNumbers();
        x.fork(0);
        x.fork(0);
        x.fork(0);
        x.setNumber(1, 5);
        x.makeRoom(1);
        x.makeRoom(1);
        x.drop(2, 9);
        x.makeRoom(3);
        Check.due("in its own room", 6, x.rightsIn(2, 0));
        Check.due("in a room inside", 6, x.rightsIn(2, 1));
        Check.due("in a room inside that", 6, x.rightsIn(2, 2));
        Check.due("all rights in its own room", 15, x.rightsIn(1, 2));
        Check.due("none in the outer room", 0, x.rightsIn(1, 1));
        Check.due("none in the room 0", 0, x.rightsIn(1, 0));
        Check.due("none in a room beside", 0, x.rightsIn(1, 3));
        Check.due("none beside, the other way", 0, x.rightsIn(3, 2));
    }

    private static void rightsOfOwners() {
        RoomNumbers x = new RoomNumbers();
        x.fork(0);
        x.setNumber(1, 5);
        for (int k = 0; k < 4; k++) {
            x.fork(1);
        }
        x.makeRoom(1);
        x.fork(1);
        x.makeRoom(1);
        x.drop(0, 15);
        x.makeRoom(0);
        x.fork(0);
        x.drop(7, 15);
        x.makeRoom(7);
        Check.due("as the owner, in its room", 15, x.rightsIn(2, 1));
        Check.due("as the owner, in a room inside that", 15, x.rightsIn(2, 2));
        Check.due("no right in its own room", 0, x.rightsIn(2, 0));
        Check.due("no right in a room of another one", 0, x.rightsIn(2, 3));
        x.drop(6, 15);
        Check.due("the owner of the room that it is in", 0, x.rightsIn(6, 1));
        Check.due("the owner of a room in its room", 15, x.rightsIn(6, 2));
        x.drop(1, 15);
        Check.due("the owner of the own room, inside", 0, x.rightsIn(1, 2));
        Check.due("and in the room outside, which it owns too", 0, x.rightsIn(1, 1));
        RoomNumbers y = new RoomNumbers();
        y.fork(0);
        y.fork(0);
        y.setNumber(2, 5);
        y.fork(2);
        y.makeRoom(1);
        y.line(0, 0, 9);
        y.writeMap(0, 1);
        y.fork(1);
        y.setNumber(1, 5);
        y.makeRoom(1);
        Check.due("the owner of a room further in", 0, y.rightsIn(3, 2));
        y.drop(0, 7);
        Check.due("the rights of the owner are all", 15, y.rightsIn(0, 1));
    }

    private ProcessesTest() {
    }
}
