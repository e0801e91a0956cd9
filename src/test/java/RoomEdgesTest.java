/** Promises 1 to 9 at the edges that the document names: a test for each sentence. */
public final class RoomEdgesTest {
    public static void main(String[] args) {
        aNewHouseIsEmpty();
        housesAreApart();
        upTo10Rooms();
        eachRoomLiesInAnEarlierOne();
        insideAndSoOn();
        outermostNumbers();
        noMapAtFirst();
        kLessThanTheLength();
        outUntilTheRoom0();
        nowhereOnTheWay();
        seenOrNobody();
        makeRoomNeedsNoRight();
        makeRoomOfNoProcess();
        makeRoomWith10Rooms();
        aDraftHasNoneAtFirst();
        firstOfALine();
        outerOfALine();
        lengthOfALine();
        numbersUpTo998();
        sumsThatWrapAround();
        aDraftOf3Lines();
        roomsThatMayBeMapped();
        aRoomWithAMap();
        noLineInTheDraft();
        numbersInCommon();
        outerNumbersInCommon();
        aNumberAndAnOuterNumber();
        whichTwoLines();
        leadsNowhereFromTheOuterRoom();
        setNumberInTheOuterRoom();
        oneLineOfOneNumber();
        whenThatIsTheOwner();
        leadsToTheNumberOfTheProcess();
        noLinesThenAlsoIfRefused();
        howManyLines();
        roomsCounted();
        outerOfTheRoom0();
        leadsToAtItsEdges();
        seenAtItsEdges();
        bothWaysAreTheSame();
        Check.end();
    }

    private static void aNewHouseIsEmpty() {
        Check.sentence("1: Makes a house with the room 0 and the process 0.");
        RoomNumbers x = new RoomNumbers();
        Check.due("rooms", 1, x.rooms());
        Check.due("processes", 1, x.processes());
        Check.due("files", 0, x.files());
        Check.due("refusals", 0, x.refusals());
        Check.due("lastRefusal", 0, x.lastRefusal());
        Check.due("outerOf(0)", -1, x.outerOf(0));
        Check.due("roomOf(0)", 0, x.roomOf(0));
        Check.due("numberOf(0)", 0, x.numberOf(0));
        Check.due("rightsIn(0, 0)", 15, x.rightsIn(0, 0));
        Edges.noSuch("room", 0, x::outerOf);
        Edges.noSuch("process", 0, x::roomOf);
        Edges.noSuch("file", -1, file -> x.ownerSeenBy(0, file));
    }

    private static void housesAreApart() {
        Check.sentence("1: Makes a house");
        RoomNumbers full = Houses.full();
        RoomNumbers x = new RoomNumbers();
        Check.due("rooms", 1, x.rooms());
        Check.due("processes", 1, x.processes());
        Check.due("files", 0, x.files());
        Check.due("refusals", 0, x.refusals());
        Check.due("lastRefusal", 0, x.lastRefusal());
        Check.due("the first line", 1, x.line(0, 0, 1));
        Check.due("the first room", 1, x.makeRoom(0));
        Check.due("it has no map", -1, x.leadsTo(1, 0));
        Check.due("the rooms of the other house", 10, full.rooms());
        Check.due("the process 0 of the other house", 0, full.roomOf(0));
        Check.full("the draft of the other house", () -> full.line(0, 0, 1));
    }

    private static void upTo10Rooms() {
        Check.sentence("There are up to 10 rooms, numbered from 0");
        RoomNumbers x = new RoomNumbers();
        for (int room = 1; room < 10; room++) {
            Edges.noSuch("room before it is made", room - 1, x::outerOf);
            Check.due("makeRoom", room, x.makeRoom(0));
        }
        Check.due("the last room", 8, x.outerOf(9));
        Check.full("one room more", () -> x.makeRoom(0));
        Edges.noSuch("room", 9, x::outerOf);
        Check.due("rooms", 10, x.rooms());
    }

    private static void eachRoomLiesInAnEarlierOne() {
        Check.sentence("each other one lies in an earlier one, its outer room");
        RoomNumbers chain = new RoomNumbers();
        RoomNumbers star = new RoomNumbers();
        for (int room = 1; room < 10; room++) {
            chain.makeRoom(0);
            Check.due("each in the one before", room - 1, chain.outerOf(room));
            star.fork(0);
            star.makeRoom(room);
            Check.due("all in the room 0", 0, star.outerOf(room));
        }
        Check.due("the room 0 lies in none", -1, chain.outerOf(0));
        Check.due("the room 0 lies in none", -1, star.outerOf(0));
    }

    private static void insideAndSoOn() {
        Check.sentence("A room is inside another one if that is its outer room, "
                + "or the outer room of that, and so on.");
        for (int from = 0; from < 10; from++) {
            RoomNumbers x = rooms9Deep(from);
            for (int to = 0; to < 10; to++) {
                int process = x.fork(1);
                Check.due("process", 2, process);
                Check.due("from the room " + from + " into " + to, to > from ? 15 : -5,
                        x.enter(process, to));
                Check.due("the room then", to > from ? to : from, x.roomOf(process));
                x = rooms9Deep(from);
            }
        }
        RoomNumbers y = new RoomNumbers();
        y.fork(0);
        y.fork(0);
        y.makeRoom(0);
        y.makeRoom(1);
        y.makeRoom(1);
        Check.due("a room beside", -5, y.enter(0, 2));
        Check.due("a room in the room beside", -5, y.enter(0, 3));
        Check.due("a room in the room 0", 15, y.enter(2, 3));
    }

    /** The process 1 is in the room given, whose owner is not the one of the others. */
    private static RoomNumbers rooms9Deep(int from) {
        RoomNumbers x = new RoomNumbers();
        x.fork(0);
        for (int room = 1; room < 10; room++) {
            x.makeRoom(0);
        }
        if (from > 0) {
            x.enter(1, from);
        }
        return x;
    }

    private static void outermostNumbers() {
        Check.sentence("Outermost numbers are 0 to 998; in the room 0 they are the numbers.");
        RoomNumbers x = new RoomNumbers();
        int asked = 0;
        for (int number = 0; number <= 998; number++) {
            if (asked++ % 100 == 0) {
                x = new RoomNumbers();
            }
            Check.due("leadsTo(0, " + number + ")", number, x.leadsTo(0, number));
            Check.due("seenAs(0, " + number + ")", number, x.seenAs(0, number));
            Check.due("seenByLeading(0, " + number + ")", number, x.seenByLeading(0, number));
        }
        Check.due("the last one taken", 998, x.setNumber(0, 998));
        RoomNumbers y = x;
        Check.outOfRange("the one above", () -> y.setNumber(0, 999));
        Check.outOfRange("the one below 0", () -> y.setNumber(0, -1));
    }

    private static void noMapAtFirst() {
        Check.sentence("Each other room has a map, none at first, of 1 to 3 lines");
        RoomNumbers x = Houses.withRoom();
        for (int number = 0; number <= 998; number += 2) {
            Check.due("leadsTo without a map", -1, x.leadsTo(1, number));
        }
        RoomNumbers y = Houses.withRoom();
        for (int number = 0; number <= 998; number += 3) {
            Check.due("seenAs without a map", 999, y.seenAs(1, number));
        }
        for (int lines = 0; lines <= 3; lines++) {
            RoomNumbers z = Houses.withRoom();
            for (int k = 0; k < lines; k++) {
                z.line(2 * k, 3 * k, 1);
            }
            Check.due("a map of " + lines + " lines", lines == 0 ? -3 : lines, z.writeMap(1, 1));
            for (int k = 0; k < 4; k++) {
                Check.due("the line " + k, k < lines ? 3 * k : -1, z.leadsTo(1, 2 * k));
            }
        }
    }

    private static void kLessThanTheLength() {
        Check.sentence("maps the number that is k above the first one, k less than the length, "
                + "to the number of the outer room that is k above the first outer one");
        int[][] lines = {
            {0, 0, 1}, {0, 998, 1}, {998, 0, 1}, {998, 998, 1}, {400, 300, 1},
            {0, 0, 2}, {0, 997, 2}, {997, 0, 2}, {300, 400, 2},
            {0, 0, 998}, {1, 0, 998}, {0, 1, 998}, {1, 1, 998}, {0, 0, 999}, {100, 500, 400},
        };
        for (int[] l : lines) {
            RoomNumbers x = mappedBy(l);
            int last = l[2] - 1;
            for (int k : new int[] {-2, -1, 0, 1, last - 1, last, last + 1, last + 2}) {
                int number = l[0] + k;
                int outer = l[1] + k;
                boolean inLine = k >= 0 && k <= last;
                if (number >= 0 && number <= 998) {
                    Check.due("k = " + k + " of " + l[2], inLine ? outer : -1,
                            x.leadsTo(1, number));
                }
                if (outer >= 0 && outer <= 998) {
                    Check.due("seen, k = " + k + " of " + l[2], inLine ? number : 999,
                            x.seenAs(1, outer));
                    Check.due("seen by leading, k = " + k, inLine ? number : 999,
                            x.seenByLeading(1, outer));
                }
            }
        }
    }

    private static RoomNumbers mappedBy(int... lines) {
        RoomNumbers x = Houses.withRoom();
        for (int at = 0; at < lines.length; at += 3) {
            x.line(lines[at], lines[at + 1], lines[at + 2]);
        }
        Check.due("writeMap", lines.length / 3, x.writeMap(1, 1));
        return x;
    }

    private static void outUntilTheRoom0() {
        Check.sentence("To lead a number of a room out is to map it to the outer room, "
                + "and so on, until the room 0.");
        RoomNumbers x = mapped9Deep();
        for (int room = 0; room < 10; room++) {
            Check.due("a number of the room " + room, 10 + 9 * room,
                    x.leadsTo(room, 10 + 8 * room));
            Check.due("the highest of the room " + room, 998, x.leadsTo(room, 998 - room));
            Check.due("that is seen again", 998 - room, x.seenAs(room, 998));
            Check.due("that is seen by leading", 998 - room, x.seenByLeading(room, 998));
            if (room > 0) {
                Check.due("above it", -1, x.leadsTo(room, 999 - room));
                Check.due("below all", -1, x.leadsTo(room, 8 * room - 1));
                Check.due("an outermost number that is below all", 999,
                        x.seenAs(room, 9 * room - 1));
                Check.due("the lowest of all that is seen", 8 * room, x.seenAs(room, 9 * room));
            }
        }
    }

    /** In the room r the numbers are r below the outermost ones, from 9 * r as an outermost one. */
    private static RoomNumbers mapped9Deep() {
        RoomNumbers x = new RoomNumbers();
        x.fork(0);
        for (int room = 1; room < 10; room++) {
            x.makeRoom(0);
            int first = 8 * room;
            x.line(first, first + 1, 999 - (first + room));
            Check.due("the map of the room " + room, 1, x.writeMap(1, room));
        }
        return x;
    }

    private static void nowhereOnTheWay() {
        Check.sentence("If a number has no line in some room on the way, it leads nowhere.");
        RoomNumbers x = Houses.nested();
        Check.due("the first of the inner line", 101, x.leadsTo(2, 500));
        Check.due("the last of the inner line", 102, x.leadsTo(2, 501));
        Check.due("no line in the inner room", -1, x.leadsTo(2, 502));
        Check.due("no line in the inner room, but in the outer one", -1, x.leadsTo(2, 11));
        Check.due("no line in the outer room", -1, x.leadsTo(1, 500));
        x.makeRoom(2);
        Check.due("no line in a room without a map, in one without a map", -1, x.leadsTo(4, 0));
    }

    private static void seenOrNobody() {
        Check.sentence("An outermost number is seen from a room as the number of this room that "
                + "leads to it, or as NOBODY if none does.");
        RoomNumbers x = mappedBy(0, 998, 1, 998, 0, 1, 5, 500, 2);
        int[][] due = {
            {998, 0}, {997, 999}, {0, 998}, {1, 999}, {499, 999}, {500, 5}, {501, 6}, {502, 999},
            {5, 999}, {6, 999},
        };
        for (int[] d : due) {
            Check.due("seenAs(1, " + d[0] + ")", d[1], x.seenAs(1, d[0]));
            Check.due("seenByLeading(1, " + d[0] + ")", d[1], x.seenByLeading(1, d[0]));
        }
    }

    private static void makeRoomNeedsNoRight() {
        Check.sentence("2: Lets a process make a room in its own one: its number is that of the "
                + "owner, and the process is in the new room then, with all rights.");
        RoomNumbers x = new RoomNumbers();
        x.fork(0);
        x.setNumber(0, 998);
        Check.due("no right before", 0, x.drop(0, 15));
        Check.due("makeRoom", 1, x.makeRoom(0));
        Check.due("the room then", 1, x.roomOf(0));
        Check.due("all rights then", 15, x.rightsIn(0, 1));
        Check.due("its number then", 998, x.numberOf(0));
        Check.due("not seen, and no right again", 0, x.drop(0, 15));
        Check.due("makeRoom by one that is not seen", 2, x.makeRoom(0));
        Check.due("all rights again", 15, x.rightsIn(0, 2));
        x.drop(1, 15);
        Check.due("the other one does not own the room", 0, x.rightsIn(1, 1));
        x.fork(0);
        Check.due("a process of a room inside does not either", 0, x.rightsIn(2, 1));
        RoomNumbers y = new RoomNumbers();
        y.fork(0);
        y.setNumber(1, 998);
        y.makeRoom(1);
        y.fork(0);
        y.setNumber(2, 998);
        Check.due("another one with the number of the owner does", 15, y.rightsIn(2, 1));
    }

    private static void makeRoomOfNoProcess() {
        Check.sentence("2: Throws IndexOutOfBoundsException if there is no such process");
        RoomNumbers x = new RoomNumbers();
        Edges.noSuch("makeRoom", 0, x::makeRoom);
        x.fork(0);
        Check.due("the last process", 1, x.makeRoom(1));
        Edges.noSuch("makeRoom with 2 processes", 1, x::makeRoom);
        Check.due("rooms", 2, x.rooms());
        RoomNumbers y = Houses.peopled();
        for (int process = 6; process < 12; process++) {
            y.fork(0);
        }
        Check.due("the last of 12", 4, y.makeRoom(11));
        Edges.noSuch("makeRoom with 12 processes", 11, y::makeRoom);
    }

    private static void makeRoomWith10Rooms() {
        Check.sentence("2: Throws IllegalStateException if there are 10 rooms");
        RoomNumbers x = new RoomNumbers();
        x.fork(0);
        for (int room = 1; room < 9; room++) {
            x.makeRoom(0);
        }
        Check.due("9 rooms are not 10", 9, x.makeRoom(1));
        Check.full("in the deepest room", () -> x.makeRoom(0));
        Check.full("in a room of the room 0", () -> x.makeRoom(1));
        Check.due("rooms", 10, x.rooms());
        Check.due("the process stays", 9, x.roomOf(1));
        Check.due("the other one stays", 8, x.roomOf(0));
    }

    private static void aDraftHasNoneAtFirst() {
        Check.sentence("3: Adds a line to the draft of a map, which has none at first.");
        RoomNumbers x = new RoomNumbers();
        Check.due("the first line", 1, x.line(0, 0, 1));
        RoomNumbers y = Houses.withRoom();
        Check.due("no line is written", -3, y.writeMap(1, 1));
        Check.due("the first line then", 1, y.line(0, 0, 1));
        Check.due("one line is written", 1, y.writeMap(1, 1));
    }

    private static void firstOfALine() {
        Check.sentence("3: first: 0 to 998");
        RoomNumbers x = new RoomNumbers();
        Edges.outOfRange("line from", 0, 998, first -> x.line(first, 0, 1));
        Check.due("the least", 1, x.line(0, 0, 1));
        Check.due("the most", 2, x.line(998, 0, 1));
        Edges.outOfRange("line of 2 from", 0, 997, first -> x.line(first, 0, 2));
    }

    private static void outerOfALine() {
        Check.sentence("3: outer: 0 to 998");
        RoomNumbers x = new RoomNumbers();
        Edges.outOfRange("line to", 0, 998, outer -> x.line(0, outer, 1));
        Check.due("the least", 1, x.line(998, 0, 1));
        Check.due("the most", 2, x.line(998, 998, 1));
        Edges.outOfRange("line of 2 to", 0, 997, outer -> x.line(0, outer, 2));
    }

    private static void lengthOfALine() {
        Check.sentence("3: length: 1 to 999");
        RoomNumbers x = new RoomNumbers();
        Edges.outOfRange("line of the length", 1, 999, length -> x.line(0, 0, length));
        Check.due("the least", 1, x.line(0, 0, 1));
        Check.due("the most", 2, x.line(0, 0, 999));
    }

    private static void numbersUpTo998() {
        Check.sentence("3: Throws IllegalArgumentException if first, outer or length is out of "
                + "range, or a number of the line would be above 998");
        for (int start : new int[] {0, 1, 2, 499, 500, 996, 997, 998}) {
            RoomNumbers x = new RoomNumbers();
            int most = 999 - start;
            Edges.outOfRange("line from " + start, 1, most, length -> x.line(start, 0, length));
            Edges.outOfRange("line to " + start, 1, most, length -> x.line(0, start, length));
            Edges.outOfRange("line from and to " + start, 1, most,
                    length -> x.line(start, start, length));
            Check.due("up to the number 998", 1, x.line(start, 0, most));
            Check.due("up to the outer number 998", 2, x.line(0, start, most));
            Check.due("up to both", 3, x.line(start, start, most));
        }
    }

    private static void sumsThatWrapAround() {
        Check.sentence("3: a number of the line would be above 998");
        RoomNumbers x = new RoomNumbers();
        int most = Integer.MAX_VALUE;
        int least = Integer.MIN_VALUE;
        int[][] wrong = {
            {998, 998, most}, {1, 0, most}, {0, 1, most}, {2, 0, most}, {0, 2, most},
            {most, 0, most}, {0, most, most}, {most, most, 2}, {most, most, 1}, {most, 0, 3},
            {least, 0, least}, {0, least, least}, {least, least, 1}, {0, 0, least},
            {-1, -1, 2}, {-998, 0, 999}, {0, -998, 999}, {most, most, most}, {least, least, least},
            {most, most, least}, {least, least, most}, {-1, 998, 1}, {998, -1, 1},
        };
        for (int[] w : wrong) {
            Check.outOfRange("line(" + w[0] + ", " + w[1] + ", " + w[2] + ")",
                    () -> x.line(w[0], w[1], w[2]));
        }
        Check.due("none was added", 1, x.line(998, 998, 1));
    }

    private static void aDraftOf3Lines() {
        Check.sentence("3: Throws IllegalStateException if the draft has 3 lines");
        RoomNumbers x = Houses.withRoom();
        for (int line = 1; line <= 3; line++) {
            Check.due("a line", line, x.line(line, line, 1));
        }
        Check.full("a fourth line", () -> x.line(4, 4, 1));
        Check.full("a line that is there", () -> x.line(1, 1, 1));
        Check.due("the draft is written", 3, x.writeMap(1, 1));
        Check.due("no fourth line", -1, x.leadsTo(1, 4));
        for (int line = 1; line <= 3; line++) {
            Check.due("a line of the next draft", line, x.line(line, line, 1));
        }
        Check.full("a fourth line of the next draft", () -> x.line(4, 4, 1));
    }

    private static void roomsThatMayBeMapped() {
        Check.sentence("4: Throws IndexOutOfBoundsException if there is no such process or room, "
                + "or room is 0");
        RoomNumbers x = new RoomNumbers();
        x.line(0, 0, 1);
        Edges.noSuch("writeMap of a new house", -1, room -> x.writeMap(0, room));
        x.fork(0);
        x.makeRoom(1);
        Check.noSuch("writeMap of the room 0", () -> x.writeMap(0, 0));
        Edges.noSuch("writeMap with 2 rooms", 1, room -> x.writeMap(0, room));
        Edges.noSuch("writeMap of the process", 1, process -> x.writeMap(process, 1));
        Edges.noSuch("writeMap of the room 0, and the process", 1,
                process -> x.writeMap(process, 0));
        Check.due("no refusal", 0, x.refusals());
        Check.due("the line is there still", 1, x.writeMap(0, 1));
        RoomNumbers y = Houses.full();
        Check.noSuch("the room 0 of 10", () -> y.writeMap(0, 0));
        Edges.noSuch("writeMap with 10 rooms", 9, room -> y.writeMap(0, room));
        Edges.noSuch("writeMap with 12 processes", 11, process -> y.writeMap(process, 1));
        Check.due("the draft is there still", -2, y.writeMap(0, 9));
    }

    private static void aRoomWithAMap() {
        Check.sentence("4: It is refused with -4 if the room has a map");
        RoomNumbers x = Houses.withRoom();
        Check.due("a refusal is no map", -3, x.writeMap(1, 1));
        x.drop(1, 8);
        x.setNumber(1, 0);
        x.fork(0);
        x.line(7, 70, 2);
        Check.due("nor is one for want of the right", -1, x.writeMap(0, 1));
        x.line(7, 0, 1);
        Check.due("a map", 1, x.writeMap(1, 1));
        x.line(7, 0, 1);
        Check.due("the same map again", -4, x.writeMap(1, 1));
        x.line(8, 1, 1);
        Check.due("another map", -4, x.writeMap(1, 1));
        Check.due("it is as it was", 0, x.leadsTo(1, 7));
        Check.due("and has no other number", -1, x.leadsTo(1, 8));
        x.makeRoom(0);
        x.line(7, 7, 1);
        Check.due("another room has none", 1, x.writeMap(1, 2));
    }

    private static void noLineInTheDraft() {
        Check.sentence("4: with -3 if the draft has no line");
        RoomNumbers x = Houses.withRoom();
        Check.due("no line", -3, x.writeMap(1, 1));
        Check.due("no line again", -3, x.writeMap(1, 1));
        Check.due("the latest refusal", -3, x.lastRefusal());
        Check.due("refusals", 2, x.refusals());
        x.line(0, 0, 1);
        Check.due("one line", 1, x.writeMap(1, 1));
        x.makeRoom(0);
        Check.due("the draft is gone", -3, x.writeMap(1, 2));
    }

    /** Two ranges as start, length, start, length, and whether they have a number in common. */
    private static final int[][] RANGES = {
        {10, 5, 15, 5, 0}, {10, 5, 14, 5, 1}, {15, 5, 10, 5, 0}, {14, 5, 10, 5, 1},
        {10, 1, 11, 1, 0}, {10, 1, 10, 1, 1}, {11, 1, 10, 1, 0},
        {10, 5, 10, 1, 1}, {10, 5, 14, 1, 1}, {10, 5, 15, 1, 0}, {10, 5, 9, 1, 0},
        {10, 1, 10, 5, 1}, {14, 1, 10, 5, 1}, {15, 1, 10, 5, 0}, {9, 1, 10, 5, 0},
        {10, 5, 10, 5, 1}, {10, 9, 12, 3, 1}, {12, 3, 10, 9, 1},
        {0, 1, 1, 1, 0}, {0, 1, 0, 1, 1}, {0, 499, 498, 1, 1}, {0, 499, 499, 1, 0},
        {0, 1, 1, 199, 0}, {0, 2, 1, 199, 1}, {0, 200, 200, 200, 0}, {0, 201, 200, 200, 1},
    };

    private static void numbersInCommon() {
        Check.sentence("4: with -3 if two lines have a number in common");
        for (int[] r : RANGES) {
            RoomNumbers x = Houses.withRoom();
            x.line(r[0], 0, r[1]);
            x.line(r[2], 500, r[3]);
            Check.due("numbers " + told(r), r[4] == 1 ? -3 : 2, x.writeMap(1, 1));
        }
    }

    private static void outerNumbersInCommon() {
        Check.sentence("4: with -3 if two lines have an outer number in common");
        for (int[] r : RANGES) {
            RoomNumbers x = Houses.withRoom();
            x.line(0, r[0], r[1]);
            x.line(500, r[2], r[3]);
            Check.due("outer numbers " + told(r), r[4] == 1 ? -3 : 2, x.writeMap(1, 1));
        }
        RoomNumbers y = Houses.withRoom();
        y.line(0, 0, 998);
        y.line(998, 998, 1);
        Check.due("all numbers, and none in common", 2, y.writeMap(1, 1));
        RoomNumbers z = Houses.withRoom();
        z.line(0, 0, 999);
        z.line(998, 998, 1);
        Check.due("the last number in common", -3, z.writeMap(1, 1));
    }

    private static String told(int[] r) {
        return r[0] + " + " + r[1] + " and " + r[2] + " + " + r[3];
    }

    private static void aNumberAndAnOuterNumber() {
        Check.sentence("4: two lines have a number or an outer number in common");
        RoomNumbers x = Houses.withRoom();
        x.line(10, 20, 5);
        x.line(20, 10, 5);
        Check.due("a number of one is an outer number of the other", 2, x.writeMap(1, 1));
        Check.due("the first line", 20, x.leadsTo(1, 10));
        Check.due("the second line", 10, x.leadsTo(1, 20));
        RoomNumbers y = Houses.withRoom();
        y.line(10, 10, 5);
        Check.due("a line whose numbers are its outer ones", 1, y.writeMap(1, 1));
        RoomNumbers z = Houses.withRoom();
        z.line(0, 1, 5);
        Check.due("a line beside itself", 1, z.writeMap(1, 1));
    }

    private static void whichTwoLines() {
        Check.sentence("4: with -3 if .. two lines have a number or an outer number in common");
        int[][] starts = {
            {0, 10, 20, 3}, {0, 1, 20, -3}, {0, 20, 1, -3}, {20, 0, 1, -3}, {0, 20, 22, 3},
            {0, 2, 4, 3}, {4, 2, 0, 3}, {0, 2, 3, -3}, {3, 0, 2, -3}, {2, 3, 0, -3}, {0, 0, 0, -3},
        };
        for (int[] s : starts) {
            RoomNumbers x = Houses.withRoom();
            RoomNumbers y = Houses.withRoom();
            for (int k = 0; k < 3; k++) {
                x.line(s[k], 100 * k, 2);
                y.line(100 * k, s[k], 2);
            }
            String what = s[0] + ", " + s[1] + " and " + s[2];
            Check.due("numbers from " + what, s[3], x.writeMap(1, 1));
            Check.due("outer numbers from " + what, s[3], y.writeMap(1, 1));
        }
    }

    private static void leadsNowhereFromTheOuterRoom() {
        Check.sentence("4: with -2 if some outer number of a line leads nowhere from the outer "
                + "room");
        int[][] lines = {
            {100, 10, 1, -2}, {100, 9, 1, 1}, {100, 9, 2, -2}, {100, 8, 2, 1}, {100, 0, 10, 1},
            {100, 0, 11, -2}, {100, 19, 1, -2}, {100, 20, 1, 1}, {100, 19, 2, -2}, {100, 20, 5, 1},
            {100, 20, 6, -2}, {100, 5, 20, -2}, {100, 0, 25, -2}, {0, 998, 1, -2}, {0, 0, 999, -2},
        };
        for (int[] l : lines) {
            for (int others = 0; others <= 2; others++) {
                RoomNumbers x = outerRoomMapped();
                if (others == 1) {
                    x.line(500, 3, 1);
                }
                boolean meets = others == 1 && l[1] <= 3 && l[1] + l[2] > 3;
                x.line(l[0], l[1], l[2]);
                if (others == 2) {
                    x.line(500, 21, 1);
                    meets = l[1] <= 21 && l[1] + l[2] > 21;
                }
                int due = l[3] == 1 && others > 0 ? 2 : l[3];
                Check.due("to " + l[1] + " + " + l[2], meets ? -3 : due, x.writeMap(0, 2));
            }
        }
        RoomNumbers y = new RoomNumbers();
        y.fork(0);
        y.makeRoom(1);
        y.makeRoom(1);
        y.line(0, 0, 1);
        Check.due("the outer room has no map", -2, y.writeMap(0, 2));
        y.line(0, 0, 999);
        Check.due("from the room 0 each one leads somewhere", 1, y.writeMap(0, 1));
        y.line(0, 0, 999);
        Check.due("and now from the room 1", 1, y.writeMap(0, 2));
    }

    /** The room 2 lies in 1, which has 0 to 9 and 20 to 24. */
    private static RoomNumbers outerRoomMapped() {
        RoomNumbers x = new RoomNumbers();
        x.fork(0);
        x.makeRoom(1);
        x.line(0, 700, 10);
        x.line(20, 800, 5);
        Check.due("the outer map", 2, x.writeMap(0, 1));
        x.makeRoom(1);
        return x;
    }

    private static void setNumberInTheOuterRoom() {
        Check.sentence("4: with -1 if the process does not have SETNUMBER in the outer room");
        for (int rights = 0; rights <= 15; rights++) {
            RoomNumbers x = new RoomNumbers();
            x.fork(0);
            x.setNumber(1, 7);
            x.makeRoom(1);
            x.drop(0, 15 - rights);
            x.line(0, 0, 5);
            Check.due("with the rights " + rights + " in the outer room",
                    (rights & 8) != 0 ? 1 : -1, x.writeMap(0, 1));
        }
        RoomNumbers x = outerRoomMapped();
        x.line(0, 0, 2);
        Check.due("all rights in the room itself", -1, x.writeMap(1, 2));
        x.drop(0, 15);
        x.line(0, 0, 2);
        Check.due("the owner of the outer room, from outside of it", 1, x.writeMap(0, 2));
        RoomNumbers y = outerRoomMapped();
        y.fork(0);
        y.setNumber(2, 7);
        y.line(0, 0, 2);
        Check.due("neither the right nor the owner", -1, y.writeMap(2, 2));
        y.fork(0);
        y.enter(3, 1);
        y.drop(3, 15);
        y.line(0, 0, 2);
        Check.due("the owner of the room alone", -1, y.writeMap(3, 2));
        y.fork(0);
        y.enter(4, 1);
        y.drop(4, 7);
        y.line(0, 0, 2);
        Check.due("SETNUMBER alone, in the outer room", 1, y.writeMap(4, 2));
    }

    private static void oneLineOfOneNumber() {
        Check.sentence("4: but for a draft of one line of the length 1");
        int[][] drafts = {
            {0, 7, 1}, {998, 7, 1}, {0, 7, 2}, {0, 6, 2}, {0, 7, 992}, {0, 7, 1, 1, 8, 1},
            {1, 8, 1, 0, 7, 1}, {0, 7, 1, 1, 8, 1, 2, 9, 1}, {2, 9, 1, 1, 8, 1, 0, 7, 1},
        };
        for (int k = 0; k < drafts.length; k++) {
            RoomNumbers x = ownedBy7();
            for (int at = 0; at < drafts[k].length; at += 3) {
                x.line(drafts[k][at], drafts[k][at + 1], drafts[k][at + 2]);
            }
            Check.due("the draft " + k, k < 2 ? 1 : -1, x.writeMap(1, 1));
        }
    }

    /** The process 1 owns the room 1 and is in it, 2 is like it in the room 0, without rights. */
    private static RoomNumbers ownedBy7() {
        RoomNumbers x = new RoomNumbers();
        x.fork(0);
        x.setNumber(1, 7);
        x.fork(1);
        Check.due("no rights in the room 0", 0, x.drop(2, 15));
        x.makeRoom(1);
        return x;
    }

    private static void whenThatIsTheOwner() {
        Check.sentence("4: whose outer number leads to the number of the process, when that is the "
                + "owner of the room");
        RoomNumbers x = ownedBy7();
        x.fork(0);
        x.drop(3, 7);
        x.setNumber(3, 8);
        Check.due("no rights in the room 0", 0, x.rightsIn(3, 0));
        x.line(0, 7, 1);
        Check.due("the number of the owner, but not of the process", -1, x.writeMap(3, 1));
        x.line(0, 8, 1);
        Check.due("the number of the process, but not of the owner", -1, x.writeMap(3, 1));
        x.line(0, 8, 1);
        Check.due("the owner, but another number", -1, x.writeMap(1, 1));
        x.line(0, 6, 1);
        Check.due("the owner, but the number below", -1, x.writeMap(1, 1));
        x.line(0, 7, 1);
        Check.due("the owner, from the room 0", 1, x.writeMap(2, 1));
        RoomNumbers y = ownedBy7();
        y.line(0, 7, 1);
        Check.due("the owner, from the room itself", 1, y.writeMap(1, 1));
        RoomNumbers z = ownedBy7();
        z.makeRoom(1);
        z.line(0, 7, 1);
        Check.due("the owner, from a room inside", 1, z.writeMap(1, 1));
        RoomNumbers w = ownedBy7();
        w.makeRoom(2);
        w.line(0, 7, 1);
        Check.due("the owner, from a room beside", 1, w.writeMap(2, 1));
        w.line(0, 5, 1);
        Check.due("with the right any number", 1, w.writeMap(0, 2));
    }

    private static void leadsToTheNumberOfTheProcess() {
        Check.sentence("4: whose outer number leads to the number of the process");
        int[][] lines = {{7, -1}, {0, -1}, {3, 1}, {2, -1}, {4, -1}, {9, -1}, {10, -2}};
        for (int[] l : lines) {
            RoomNumbers x = ownedBy7();
            x.line(0, 4, 10);
            Check.due("the map of the room 1", 1, x.writeMap(0, 1));
            x.makeRoom(1);
            x.line(500, l[0], 1);
            Check.due("by the outer number " + l[0], l[1], x.writeMap(1, 2));
        }
    }

    private static void noLinesThenAlsoIfRefused() {
        Check.sentence("4: the draft has no lines then, also if that is refused");
        RoomNumbers x = Houses.peopled();
        for (int lines = 1; lines <= 3; lines++) {
            Check.due("a line", lines, x.line(lines, lines, 1));
        }
        Check.due("refused with -4", -4, x.writeMap(0, 1));
        Check.due("then", 1, x.line(0, 0, 2));
        x.line(0, 0, 2);
        Check.due("refused with -3", -3, x.writeMap(0, 3));
        Check.due("then", 1, x.line(0, 998, 1));
        Check.due("refused with -2", -2, x.writeMap(0, 2));
        Check.due("then", 1, x.line(0, 0, 2));
        Check.due("refused with -1", -1, x.writeMap(2, 3));
        Check.due("then", 1, x.line(0, 0, 2));
        Check.due("written", 1, x.writeMap(0, 3));
        Check.due("then", 1, x.line(0, 0, 2));
        Check.noSuch("after an exception it is as it was", () -> x.writeMap(0, 0));
        Check.due("then", 2, x.line(0, 0, 2));
    }

    private static void howManyLines() {
        Check.sentence("4: Returns how many lines the map has");
        for (int lines = 1; lines <= 3; lines++) {
            RoomNumbers x = Houses.withRoom();
            for (int k = 0; k < lines; k++) {
                x.line(300 * k, 300 * k, 300);
            }
            Check.due("lines", lines, x.writeMap(1, 1));
            Check.due("refusals", 0, x.refusals());
        }
    }

    private static void roomsCounted() {
        Check.sentence("5: Returns how many rooms there are.");
        RoomNumbers x = new RoomNumbers();
        Check.due("at first", 1, x.rooms());
        for (int rooms = 2; rooms <= 10; rooms++) {
            x.makeRoom(0);
            Check.due("rooms", rooms, x.rooms());
        }
        Check.full("one more", () -> x.makeRoom(0));
        Check.due("at last", 10, x.rooms());
    }

    private static void outerOfTheRoom0() {
        Check.sentence("6: Returns the outer room; NONE of the room 0.");
        RoomNumbers x = new RoomNumbers();
        Check.due("outerOf(0)", -1, x.outerOf(0));
        Edges.noSuch("outerOf", 0, x::outerOf);
        x.makeRoom(0);
        Check.due("outerOf(1)", 0, x.outerOf(1));
        Check.due("outerOf(0) again", -1, x.outerOf(0));
        Edges.noSuch("outerOf with 2 rooms", 1, x::outerOf);
        RoomNumbers y = Houses.full();
        Check.due("outerOf(9)", 8, y.outerOf(9));
        Edges.noSuch("outerOf with 10 rooms", 9, y::outerOf);
        Check.due("it is no refusal", 1, y.refusals());
    }

    private static void leadsToAtItsEdges() {
        Check.sentence("7: number: 0 to 998; the outermost number; NONE if it leads nowhere");
        RoomNumbers x = new RoomNumbers();
        Edges.noSuch("leadsTo", 0, room -> x.leadsTo(room, 0));
        Edges.outOfRange("leadsTo", 0, 998, number -> x.leadsTo(0, number));
        Check.due("the least", 0, x.leadsTo(0, 0));
        Check.due("the most", 998, x.leadsTo(0, 998));
        RoomNumbers y = Houses.full();
        Edges.noSuch("leadsTo with 10 rooms", 9, room -> y.leadsTo(room, 0));
        Edges.outOfRange("leadsTo of a mapped room", 0, 998, number -> y.leadsTo(1, number));
        Edges.outOfRange("leadsTo of the last room", 0, 998, number -> y.leadsTo(9, number));
        Check.due("the last room has no map", -1, y.leadsTo(9, 0));
        Check.due("nor for the last number", -1, y.leadsTo(9, 998));
        Check.due("it is no refusal", 1, y.refusals());
        Check.due("nor the latest one", -5, y.lastRefusal());
    }

    private static void seenAtItsEdges() {
        Check.sentence("8 and 9: outermost: 0 to 998; NOBODY if it is not seen");
        RoomNumbers x = new RoomNumbers();
        Edges.noSuch("seenAs", 0, room -> x.seenAs(room, 0));
        Edges.outOfRange("seenAs", 0, 998, number -> x.seenAs(0, number));
        Edges.noSuch("seenByLeading", 0, room -> x.seenByLeading(room, 0));
        Edges.outOfRange("seenByLeading", 0, 998, number -> x.seenByLeading(0, number));
        Check.due("the least", 0, x.seenAs(0, 0));
        Check.due("the most", 998, x.seenAs(0, 998));
        Check.due("the least by leading", 0, x.seenByLeading(0, 0));
        Check.due("the most by leading", 998, x.seenByLeading(0, 998));
        RoomNumbers y = Houses.full();
        Edges.noSuch("seenAs with 10 rooms", 9, room -> y.seenAs(room, 0));
        Edges.outOfRange("seenAs from the last room", 0, 998, number -> y.seenAs(9, number));
        Edges.noSuch("seenByLeading with 10 rooms", 9, room -> y.seenByLeading(room, 0));
        Edges.outOfRange("seenByLeading from the last room", 0, 998,
                number -> y.seenByLeading(9, number));
        Check.due("NOBODY", 999, y.seenAs(9, 0));
        Check.due("NOBODY by leading", 999, y.seenByLeading(9, 998));
        Check.due("it is no refusal", 1, y.refusals());
    }

    private static void bothWaysAreTheSame() {
        Check.sentence("9: Returns the same, found by leading all numbers of the room out.");
        int seen = 0;
        for (int first = 0; first <= 998; first += 40) {
            RoomNumbers x = mapped9Deep();
            for (int number = first; number < first + 40 && number <= 998; number++) {
                for (int room = 1; room < 10; room += 4) {
                    int due = number >= 9 * room ? number - room : 999;
                    seen += due == 999 ? 0 : 1;
                    Check.due("seenAs(" + room + ", " + number + ")", due,
                            x.seenAs(room, number));
                    Check.due("seenByLeading(" + room + ", " + number + ")", due,
                            x.seenByLeading(room, number));
                }
            }
        }
        Check.due("how many were seen", 3 * 999 - 9 - 45 - 81, seen);
    }

    private RoomEdgesTest() {
    }
}
