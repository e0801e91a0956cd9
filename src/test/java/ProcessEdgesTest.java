/** Promises 10 to 17 at the edges that the document names: a test for each sentence. */
public final class ProcessEdgesTest {
    public static void main(String[] args) {
        upTo12Processes();
        rightsAsASum();
        theProcess0();
        itsRoomIsThatOrThatIsInside();
        ownerOfARoomInItsRoom();
        ownerOfARoomElsewhere();
        ownerByTheNumberThatItHas();
        forkOfNoProcess();
        forkWith12Processes();
        likeAnotherOne();
        dropAtItsEdges();
        theRightsThatItHasThen();
        enterAtItsEdges();
        theRoomIsNotInside();
        adminInTheRoom();
        adminAsTheOwner();
        thereThenWithAllRights();
        setNumberAtItsEdges();
        theNumberLeadsNowhere();
        theNumberThatItHasAlready();
        setNumberInItsRoom();
        seenAs0AndAnotherOne();
        notSeenAs0();
        rightsStayWhenRefused();
        processesCounted();
        roomOfAtItsEdges();
        numberOfAtItsEdges();
        rightsInAtItsEdges();
        allOfThemAsTheOwner();
        Check.end();
    }

    private static void upTo12Processes() {
        Check.sentence("There are up to 12 processes, numbered from 0");
        RoomNumbers x = new RoomNumbers();
        for (int process = 1; process < 12; process++) {
            Edges.noSuch("process before it is made", process - 1, x::roomOf);
            Check.due("fork", process, x.fork(process - 1));
        }
        Check.due("the last process", 0, x.roomOf(11));
        Check.full("one process more", () -> x.fork(11));
        Edges.noSuch("process", 11, x::roomOf);
        Check.due("processes", 12, x.processes());
    }

    private static void rightsAsASum() {
        Check.sentence("a set of rights: ADMIN 1, CHOWN 2, OVERRIDE 4, SETNUMBER 8, as a sum");
        for (int rights = 0; rights <= 15; rights++) {
            RoomNumbers x = new RoomNumbers();
            x.fork(0);
            x.setNumber(1, 5);
            x.makeRoom(1);
            x.makeFile(0, 0);
            Check.due("drop", rights, x.drop(0, 15 - rights));
            Check.due("rightsIn", rights, x.rightsIn(0, 0));
            Check.due("CHOWN of " + rights, (rights & 2) != 0 ? 3 : -1, x.handOver(0, 0, 3));
            Check.due("OVERRIDE of " + rights, (rights & 4) != 0 ? 2 : -6, x.open(0, 0, true));
            x.fork(0);
            Check.due("SETNUMBER of " + rights, (rights & 8) != 0 ? 9 : -1, x.setNumber(2, 9));
            Check.due("ADMIN of " + rights, (rights & 1) != 0 ? 15 : -1, x.enter(0, 1));
        }
    }

    private static void theProcess0() {
        Check.sentence("The process 0 is there at first, in the room 0, with the number 0 and all "
                + "rights.");
        RoomNumbers x = new RoomNumbers();
        Check.due("processes", 1, x.processes());
        Check.due("roomOf(0)", 0, x.roomOf(0));
        Check.due("numberOf(0)", 0, x.numberOf(0));
        Check.due("rightsIn(0, 0)", 15, x.rightsIn(0, 0));
        Check.due("drop(0, 0)", 15, x.drop(0, 0));
    }

    private static void itsRoomIsThatOrThatIsInside() {
        Check.sentence("A process has a right in a room if it has the right, and its room is that "
                + "room, or that is inside it");
        for (int in = 0; in < 10; in++) {
            RoomNumbers x = tenRoomsOf5();
            if (in > 0) {
                x.enter(0, in);
            }
            x.drop(0, 6);
            for (int asked = 0; asked < 10; asked++) {
                boolean inside = asked == in || isInside(asked, in);
                Check.due("in " + in + ", asked of " + asked, inside ? 9 : 0, x.rightsIn(0, asked));
            }
        }
    }

    /** 1 to 5 one in another, 6 in 0, 7 and 8 in 6, 9 in 2; all owned by 5. */
    private static RoomNumbers tenRoomsOf5() {
        RoomNumbers x = new RoomNumbers();
        x.fork(0);
        x.setNumber(1, 5);
        x.fork(1);
        x.makeRoom(1);
        x.makeRoom(1);
        x.fork(1);
        for (int room = 3; room < 6; room++) {
            x.makeRoom(1);
        }
        x.makeRoom(2);
        x.fork(2);
        x.makeRoom(2);
        x.makeRoom(4);
        Check.due("the last room", 9, x.makeRoom(3));
        return x;
    }

    private static final int[] OUTER = {-1, 0, 1, 2, 3, 4, 0, 6, 6, 2};

    private static boolean isInside(int room, int other) {
        for (int at = OUTER[room]; at >= 0; at = OUTER[at]) {
            if (at == other) {
                return true;
            }
        }
        return false;
    }

    private static void ownerOfARoomInItsRoom() {
        Check.sentence("or if its number is that of the owner of a room whose outer room is the "
                + "one of the process, and that room is the one that is asked, or it is inside "
                + "that");
        for (int in = 0; in < 10; in++) {
            RoomNumbers x = ownerIn(in);
            for (int asked = 0; asked < 10; asked++) {
                Check.due("in " + in + ", asked of " + asked, isInside(asked, in) ? 15 : 0,
                        x.rightsIn(5, asked));
            }
        }
    }

    /** The process 5 has the number 5 and no rights, in the room given of tenRoomsOf5. */
    private static RoomNumbers ownerIn(int room) {
        RoomNumbers x = tenRoomsOf5();
        x.fork(0);
        if (room > 0) {
            x.enter(5, room);
            mapTo5(x, room);
            Check.due("the number of the room", 5, x.setNumber(5, 5));
        } else {
            x.setNumber(5, 5);
        }
        Check.due("no rights", 0, x.drop(5, 15));
        return x;
    }

    private static void mapTo5(RoomNumbers x, int room) {
        if (room > 0) {
            mapTo5(x, OUTER[room]);
            x.line(5, 5, 1);
            Check.due("the map of " + room, 1, x.writeMap(0, room));
        }
    }

    private static void ownerOfARoomElsewhere() {
        Check.sentence("the owner of a room whose outer room is the one of the process");
        RoomNumbers x = new RoomNumbers();
        x.fork(0);
        x.fork(0);
        x.setNumber(2, 5);
        x.makeRoom(1);
        x.line(5, 5, 1);
        x.writeMap(0, 1);
        x.fork(1);
        Check.due("a number of the room 1", 5, x.setNumber(3, 5));
        x.makeRoom(3);
        Check.due("the room 2 is of 5, in the room 1", 1, x.outerOf(2));
        Check.due("5 in the room 0 is not just outside of it", 0, x.rightsIn(2, 2));
        Check.due("nor of the room 1, which is of 0", 0, x.rightsIn(2, 1));
        x.makeRoom(2);
        Check.due("from a room beside", 0, x.rightsIn(2, 2));
        x.drop(3, 15);
        Check.due("from the room itself", 0, x.rightsIn(3, 2));
    }

    private static void ownerByTheNumberThatItHas() {
        Check.sentence("if its number is that of the owner");
        RoomNumbers x = new RoomNumbers();
        x.fork(0);
        x.fork(0);
        x.fork(0);
        x.makeRoom(1);
        x.setNumber(2, 1);
        x.drop(3, 15);
        Check.due("another number", 0, x.rightsIn(2, 1));
        Check.due("the number 0, without rights", 15, x.rightsIn(3, 1));
        Check.due("not in the room 0", 0, x.rightsIn(3, 0));
        x.fork(0);
        x.setNumber(0, 77);
        Check.due("the number that it had before", 0, x.rightsIn(0, 1));
        x.drop(4, 7);
        Check.due("the owner with SETNUMBER", 15, x.rightsIn(4, 1));
        x.setNumber(4, 78);
        Check.due("the owner no more", 0, x.rightsIn(4, 1));
    }

    private static void forkOfNoProcess() {
        Check.sentence("10: Throws IndexOutOfBoundsException if there is no such process");
        RoomNumbers x = new RoomNumbers();
        Edges.noSuch("fork", 0, x::fork);
        Check.due("fork(0)", 1, x.fork(0));
        Edges.noSuch("fork of 2", 1, x::fork);
        Check.due("the last one", 2, x.fork(1));
        RoomNumbers y = Houses.full();
        Edges.noSuch("fork of 12", 11, y::fork);
    }

    private static void forkWith12Processes() {
        Check.sentence("10: Throws IllegalStateException if there are 12 processes");
        RoomNumbers x = new RoomNumbers();
        for (int process = 1; process < 11; process++) {
            x.fork(0);
        }
        Check.due("11 are not 12", 11, x.fork(0));
        for (int process = 0; process < 12; process++) {
            int forked = process;
            Check.full("fork(" + process + ")", () -> x.fork(forked));
        }
        Check.due("processes", 12, x.processes());
        Check.due("refusals", 0, x.refusals());
    }

    private static void likeAnotherOne() {
        Check.sentence("10: Makes a process like another one.");
        for (int rights = 0; rights <= 15; rights++) {
            RoomNumbers x = Houses.mapped();
            x.setNumber(1, 9);
            x.drop(1, 15 - rights);
            Check.due("fork", 2, x.fork(1));
            Check.due("its room", 1, x.roomOf(2));
            Check.due("its number", 109, x.numberOf(2));
            Check.due("its rights", rights, x.rightsIn(2, 1));
            x.drop(2, 15);
            Check.due("the other one has its rights still", rights, x.rightsIn(1, 1));
            x.makeRoom(1);
            Check.due("it stays when the other one goes", 1, x.roomOf(2));
            Check.due("without its rights", 0, x.rightsIn(2, 1));
        }
        RoomNumbers y = Houses.mapped();
        Check.due("not seen", 999, y.seenAs(1, y.numberOf(1)));
        Check.due("fork of one that is not seen", 2, y.fork(1));
        Check.due("its number", 0, y.numberOf(2));
    }

    private static void dropAtItsEdges() {
        Check.sentence("11: rights: 0 to 15");
        RoomNumbers x = new RoomNumbers();
        Edges.outOfRange("drop", 0, 15, rights -> x.drop(0, rights));
        Edges.noSuch("drop of the process", 0, process -> x.drop(process, 15));
        Check.due("none", 15, x.drop(0, 0));
        Check.due("all", 0, x.drop(0, 15));
        Check.due("none of none", 0, x.drop(0, 0));
        Check.due("all of none", 0, x.drop(0, 15));
        Edges.outOfRange("drop without rights", 0, 15, rights -> x.drop(0, rights));
        RoomNumbers y = Houses.full();
        Edges.noSuch("drop with 12 processes", 11, process -> y.drop(process, 0));
        Check.due("the last one", 0, y.drop(11, 15));
    }

    private static void theRightsThatItHasThen() {
        Check.sentence("11: those that it has no more; returns the rights that it has then");
        for (int first = 0; first <= 15; first++) {
            for (int second = 0; second <= 15; second++) {
                RoomNumbers x = new RoomNumbers();
                Check.due("drop " + first, 15 & ~first, x.drop(0, first));
                Check.due("drop " + second, 15 & ~first & ~second, x.drop(0, second));
                Check.due("rightsIn", 15 & ~first & ~second, x.rightsIn(0, 0));
            }
        }
        RoomNumbers y = Houses.mapped();
        Check.due("those of its own, not those of the owner", 3, y.drop(0, 12));
        Check.due("in its room", 3, y.rightsIn(0, 0));
        Check.due("as the owner", 15, y.rightsIn(0, 1));
    }

    private static void enterAtItsEdges() {
        Check.sentence("12: Throws IndexOutOfBoundsException if there is no such process or room");
        RoomNumbers x = new RoomNumbers();
        Edges.noSuch("enter of a new house", 0, room -> x.enter(0, room));
        Edges.noSuch("enter by", 0, process -> x.enter(process, 0));
        x.fork(0);
        x.makeRoom(1);
        Edges.noSuch("enter with 2 rooms", 1, room -> x.enter(0, room));
        Edges.noSuch("enter by 2", 1, process -> x.enter(process, 1));
        Check.due("no refusal", 0, x.refusals());
        Check.due("the last room", 15, x.enter(0, 1));
        RoomNumbers y = Houses.full();
        Edges.noSuch("enter with 10 rooms", 9, room -> y.enter(0, room));
        Edges.noSuch("enter by 12", 11, process -> y.enter(process, 9));
        Check.due("the last process, the last room", 15, y.enter(11, 9));
    }

    private static void theRoomIsNotInside() {
        Check.sentence("12: It is refused with -5 if the room is not inside");
        for (int in = 0; in < 10; in++) {
            for (int to = 0; to < 10; to++) {
                RoomNumbers x = tenRoomsOf5();
                if (in > 0) {
                    x.enter(0, in);
                }
                int before = x.refusals();
                boolean inside = isInside(to, in);
                Check.due("from " + in + " to " + to, inside ? 15 : -5, x.enter(0, to));
                Check.due("the room then", inside ? to : in, x.roomOf(0));
                Check.due("refusals", inside ? before : before + 1, x.refusals());
            }
        }
    }

    private static void adminInTheRoom() {
        Check.sentence("12: with -1 if it does not have ADMIN in the room");
        for (int rights = 0; rights <= 15; rights++) {
            for (int room = 1; room < 10; room++) {
                RoomNumbers x = tenRoomsOf5();
                x.drop(0, 15 - rights);
                boolean admin = (rights & 1) != 0;
                Check.due("with " + rights + " to " + room, admin ? 15 : -1, x.enter(0, room));
                Check.due("the room then", admin ? room : 0, x.roomOf(0));
                Check.due("the rights then", admin ? 15 : rights, x.drop(0, 0));
            }
        }
    }

    private static void adminAsTheOwner() {
        Check.sentence("12: ADMIN in the room, as the owner of a room whose outer room is its own");
        for (int in = 0; in < 10; in++) {
            for (int to = 0; to < 10; to++) {
                if (isInside(to, in)) {
                    RoomNumbers x = ownerIn(in);
                    Check.due("from " + in + " to " + to, 15, x.enter(5, to));
                    Check.due("the room then", to, x.roomOf(5));
                    Check.due("the number then", 5, x.numberOf(5));
                }
            }
        }
        RoomNumbers y = Houses.peopled();
        y.fork(0);
        y.drop(6, 1);
        Check.due("the room of another one", -1, y.enter(6, 3));
        Check.due("a room in the own one", 15, y.enter(6, 2));
        RoomNumbers z = new RoomNumbers();
        z.fork(0);
        z.setNumber(1, 5);
        z.fork(0);
        z.makeRoom(2);
        z.line(5, 5, 1);
        z.writeMap(0, 1);
        z.setNumber(2, 5);
        z.makeRoom(2);
        Check.due("the owner of the room, which lies further in", -1, z.enter(1, 2));
    }

    private static void thereThenWithAllRights() {
        Check.sentence("12: there then, with all rights; returns the rights that it has then");
        RoomNumbers x = Houses.peopled();
        x.fork(0);
        Check.due("ADMIN alone", 1, x.drop(6, 14));
        Check.due("enter", 15, x.enter(6, 1));
        Check.due("rights there", 15, x.rightsIn(6, 1));
        Check.due("rights further in", 15, x.rightsIn(6, 2));
        Check.due("none outside", 0, x.rightsIn(6, 0));
        Check.due("its number", 0, x.numberOf(6));
        Check.due("it is not back", -5, x.enter(6, 0));
        Check.due("ADMIN alone again", 1, x.drop(6, 14));
        Check.due("not into its own room for the rights", -5, x.enter(6, 1));
        Check.due("rights after the refusal", 1, x.rightsIn(6, 1));
        Check.due("further in", 15, x.enter(6, 2));
    }

    private static void setNumberAtItsEdges() {
        Check.sentence("13: number: 0 to 998; no such process");
        RoomNumbers x = new RoomNumbers();
        Edges.outOfRange("setNumber", 0, 998, number -> x.setNumber(0, number));
        Edges.noSuch("setNumber of", 0, process -> x.setNumber(process, 0));
        x.fork(0);
        Check.due("the least", 0, x.setNumber(0, 0));
        Check.due("the most", 998, x.setNumber(0, 998));
        Check.due("the last process", 998, x.setNumber(1, 998));
        Edges.noSuch("setNumber of 2", 1, process -> x.setNumber(process, 0));
        RoomNumbers y = Houses.full();
        Edges.outOfRange("setNumber without a map", 0, 998, number -> y.setNumber(6, number));
        Edges.outOfRange("setNumber without rights", 0, 998, number -> y.setNumber(4, number));
        Edges.noSuch("setNumber of 12", 11, process -> y.setNumber(process, 0));
        Check.due("no refusal", 1, y.refusals());
    }

    private static void theNumberLeadsNowhere() {
        Check.sentence("13: It is refused with -2 if the number leads nowhere");
        RoomNumbers x = new RoomNumbers();
        x.fork(0);
        x.makeRoom(1);
        x.line(10, 100, 10);
        x.line(998, 0, 1);
        x.writeMap(0, 1);
        int[][] due = {
            {9, -2}, {10, 100}, {19, 109}, {20, -2}, {997, -2}, {998, 0}, {0, -2}, {100, -2},
        };
        for (int[] d : due) {
            Check.due("setNumber(1, " + d[0] + ")", d[1], x.setNumber(1, d[0]));
        }
        Check.due("the number", 0, x.numberOf(1));
        x.makeRoom(1);
        Check.due("without a map", -2, x.setNumber(1, 998));
        Check.due("also the number that it has", -2, x.setNumber(1, 0));
        Check.due("in the room 0 each number leads somewhere", 998, x.setNumber(0, 998));
    }

    private static void theNumberThatItHasAlready() {
        Check.sentence("13: with -1 if that is not the number that it has already, and it does not "
                + "have SETNUMBER");
        RoomNumbers x = Houses.mapped();
        x.setNumber(1, 3);
        x.drop(1, 15);
        Check.due("the number below", -1, x.setNumber(1, 2));
        Check.due("the number that it has", 103, x.setNumber(1, 3));
        Check.due("the number above", -1, x.setNumber(1, 4));
        Check.due("the number then", 103, x.numberOf(1));
        RoomNumbers y = new RoomNumbers();
        y.drop(0, 15);
        Check.due("0", 0, y.setNumber(0, 0));
        Check.due("1", -1, y.setNumber(0, 1));
        Check.due("998", -1, y.setNumber(0, 998));
        Check.due("refusals", 2, y.refusals());
        RoomNumbers z = Houses.mapped();
        z.drop(1, 8);
        Check.due("the number in the room is that of another one outside", -1, z.setNumber(1, 0));
    }

    private static void setNumberInItsRoom() {
        Check.sentence("13: SETNUMBER in its room");
        for (int rights = 0; rights <= 15; rights++) {
            RoomNumbers x = Houses.mapped();
            x.setNumber(1, 3);
            x.drop(1, 15 - rights);
            boolean may = (rights & 8) != 0;
            Check.due("with " + rights, may ? 105 : -1, x.setNumber(1, 5));
            Check.due("the number then", may ? 105 : 103, x.numberOf(1));
            Check.due("the rights then", rights, x.rightsIn(1, 1));
        }
        RoomNumbers y = Houses.mapped();
        y.drop(0, 8);
        Check.due("all rights inside, as the owner", 15, y.rightsIn(0, 1));
        Check.due("but not in its room", -1, y.setNumber(0, 5));
    }

    private static void seenAs0AndAnotherOne() {
        Check.sentence("13: If it was seen as 0 from its room, and the number is another one, it "
                + "has no rights then.");
        int[][] steps = {{0, 0, 15}, {0, 1, 0}, {0, 9, 0}, {1, 0, 15}, {1, 2, 15}, {9, 9, 15}};
        for (int[] s : steps) {
            RoomNumbers x = Houses.mapped();
            x.setNumber(1, s[0]);
            Check.due("in a room, the number", 100 + s[1], x.setNumber(1, s[1]));
            Check.due("from " + s[0] + " to " + s[1], s[2], x.rightsIn(1, 1));
        }
        for (int rights = 8; rights <= 15; rights++) {
            RoomNumbers x = new RoomNumbers();
            x.drop(0, 15 - rights);
            Check.due("the same number", 0, x.setNumber(0, 0));
            Check.due("the rights of before", rights, x.rightsIn(0, 0));
            Check.due("another number", 1, x.setNumber(0, 1));
            Check.due("no rights", 0, x.rightsIn(0, 0));
            Check.due("no way back", -1, x.setNumber(0, 0));
        }
    }

    private static void notSeenAs0() {
        Check.sentence("13: If it was seen as 0 from its room");
        RoomNumbers x = new RoomNumbers();
        x.fork(0);
        x.makeRoom(1);
        x.line(5, 0, 3);
        x.line(0, 50, 1);
        x.writeMap(0, 1);
        Check.due("the outermost 0 is seen as 5", 5, x.seenAs(1, 0));
        Check.due("it takes another number", 1, x.setNumber(1, 6));
        Check.due("and keeps its rights", 15, x.rightsIn(1, 1));
        Check.due("it takes that which is seen as 0", 50, x.setNumber(1, 0));
        Check.due("and keeps its rights", 15, x.rightsIn(1, 1));
        Check.due("it takes the outermost 0", 0, x.setNumber(1, 5));
        Check.due("and has none", 0, x.rightsIn(1, 1));
        RoomNumbers y = Houses.mapped();
        Check.due("seen as NOBODY", 999, y.seenAs(1, y.numberOf(1)));
        Check.due("it takes a number", 101, y.setNumber(1, 1));
        Check.due("and keeps its rights", 15, y.rightsIn(1, 1));
    }

    private static void rightsStayWhenRefused() {
        Check.sentence("13: it has no rights then, unless it is refused");
        RoomNumbers x = Houses.mapped();
        x.setNumber(1, 0);
        Check.due("nowhere", -2, x.setNumber(1, 10));
        Check.due("the rights", 15, x.rightsIn(1, 1));
        x.drop(1, 8);
        Check.due("without SETNUMBER", -1, x.setNumber(1, 9));
        Check.due("the rights", 7, x.rightsIn(1, 1));
        Check.due("the number", 100, x.numberOf(1));
    }

    private static void processesCounted() {
        Check.sentence("14: Returns how many processes there are.");
        RoomNumbers x = new RoomNumbers();
        Check.due("at first", 1, x.processes());
        for (int processes = 2; processes <= 12; processes++) {
            x.fork(0);
            Check.due("processes", processes, x.processes());
        }
        Check.full("one more", () -> x.fork(0));
        Check.due("at last", 12, x.processes());
    }

    private static void roomOfAtItsEdges() {
        Check.sentence("15: Returns the room of a process.");
        RoomNumbers x = new RoomNumbers();
        Edges.noSuch("roomOf", 0, x::roomOf);
        for (int room = 0; room < 10; room++) {
            Check.due("roomOf(0)", room, x.roomOf(0));
            if (room < 9) {
                x.makeRoom(0);
            }
        }
        RoomNumbers y = Houses.full();
        Edges.noSuch("roomOf with 12 processes", 11, y::roomOf);
        y.enter(11, 9);
        Check.due("roomOf(11)", 9, y.roomOf(11));
    }

    private static void numberOfAtItsEdges() {
        Check.sentence("16: Returns the outermost number of a process.");
        RoomNumbers x = new RoomNumbers();
        Edges.noSuch("numberOf", 0, x::numberOf);
        Check.due("the least", 0, x.numberOf(0));
        x.setNumber(0, 998);
        Check.due("the most", 998, x.numberOf(0));
        RoomNumbers y = Houses.full();
        Edges.noSuch("numberOf with 12 processes", 11, y::numberOf);
        y.setNumber(11, 1);
        Check.due("numberOf(11)", 1, y.numberOf(11));
        RoomNumbers z = Houses.mapped();
        z.setNumber(1, 9);
        Check.due("the outermost one, not that of the room", 109, z.numberOf(1));
    }

    private static void rightsInAtItsEdges() {
        Check.sentence("17: Throws IndexOutOfBoundsException if there is no such process or room");
        RoomNumbers x = new RoomNumbers();
        Edges.noSuch("rightsIn", 0, room -> x.rightsIn(0, room));
        Edges.noSuch("rightsIn of", 0, process -> x.rightsIn(process, 0));
        RoomNumbers y = Houses.full();
        Edges.noSuch("rightsIn with 10 rooms", 9, room -> y.rightsIn(0, room));
        Edges.noSuch("rightsIn with 12 processes", 11, process -> y.rightsIn(process, 0));
        Check.due("the last process, the last room", 15, y.rightsIn(11, 9));
        Check.due("the last process, the room 0", 15, y.rightsIn(11, 0));
        Check.due("no refusal", 1, y.refusals());
    }

    private static void allOfThemAsTheOwner() {
        Check.sentence("17: Returns the rights: all of them as the owner.");
        for (int rights = 0; rights <= 15; rights++) {
            RoomNumbers x = Houses.mapped();
            x.makeRoom(1);
            x.drop(0, 15 - rights);
            Check.due("in its own room", rights, x.rightsIn(0, 0));
            Check.due("in the room that it owns", 15, x.rightsIn(0, 1));
            Check.due("in a room inside that", 15, x.rightsIn(0, 2));
            x.setNumber(0, 1);
            boolean other = (rights & 8) != 0;
            Check.due("then, as the owner or not", other ? 0 : 15, x.rightsIn(0, 1));
        }
    }

    private ProcessEdgesTest() {
    }
}
