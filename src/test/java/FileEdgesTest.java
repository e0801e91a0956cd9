/** Promises 18 to 24 at the edges that the document names: a test for each sentence. */
public final class FileEdgesTest {
    public static void main(String[] args) {
        upTo20Files();
        modesForTheOwnerAndOthers();
        whoIsTheOwner();
        orIfItHasOverride();
        seenAsAnotherOneThanNobody();
        makeFileAtItsEdges();
        makeFileByOneThatIsNotSeen();
        makeFileWith20Files();
        handOverAtItsEdges();
        handOverToNowhere();
        handOverOfAnUnseenOwner();
        handOverWithChown();
        theNewOwner();
        openAtItsEdges();
        theModeAndNoOverride();
        overrideAndNobody();
        oneByTheModeTwoByOverride();
        ownerSeenByAtItsEdges();
        filesCounted();
        callsRefusedSoFar();
        asManyAsThereAreCalls();
        theLatestRefusal();
        zeroIfThereWasNone();
        noneIsNoRefusal();
        Check.end();
    }

    private static void upTo20Files() {
        Check.sentence("There are up to 20 files, numbered from 0");
        RoomNumbers x = new RoomNumbers();
        for (int file = 0; file < 20; file++) {
            int next = file;
            Check.noSuch("a file before it is made", () -> x.ownerSeenBy(0, next));
            Check.due("makeFile", file, x.makeFile(0, 15));
        }
        Check.due("the last file", 0, x.ownerSeenBy(0, 19));
        Check.full("one file more", () -> x.makeFile(0, 15));
        Edges.noSuch("file", 19, f -> x.ownerSeenBy(0, f));
        Check.due("files", 20, x.files());
    }

    private static void modesForTheOwnerAndOthers() {
        Check.sentence("a mode, 0 to 15: 1 the owner may read, 2 the owner may write, 4 others may "
                + "read, 8 others may write, together");
        for (int mode = 0; mode <= 15; mode++) {
            RoomNumbers x = new RoomNumbers();
            x.makeFile(0, mode);
            x.drop(0, 4);
            x.fork(0);
            x.setNumber(1, 998);
            x.fork(0);
            x.drop(2, 15);
            for (int owner = 0; owner <= 2; owner += 2) {
                Check.due("the owner reads " + mode, mode % 2 == 1 ? 1 : -6,
                        x.open(owner, 0, false));
                Check.due("the owner writes " + mode, mode / 2 % 2 == 1 ? 1 : -6,
                        x.open(owner, 0, true));
            }
            Check.due("another one reads " + mode, mode / 4 % 2 == 1 ? 1 : -6, x.open(1, 0, false));
            Check.due("another one writes " + mode, mode / 8 == 1 ? 1 : -6, x.open(1, 0, true));
        }
    }

    private static void whoIsTheOwner() {
        Check.sentence("for the owner, when its number is that of the owner, or for others, when "
                + "it is another one");
        RoomNumbers x = new RoomNumbers();
        x.makeFile(0, 1);
        x.makeFile(0, 4);
        x.drop(0, 4);
        x.fork(0);
        x.makeRoom(1);
        x.drop(1, 4);
        Check.due("the owner, in a room from which it is not seen", 1, x.open(1, 0, false));
        Check.due("it is no other one", -6, x.open(1, 1, false));
        x.fork(0);
        x.setNumber(2, 1);
        Check.due("another one", -6, x.open(2, 0, false));
        Check.due("another one reads for others", 1, x.open(2, 1, false));
        Check.due("the file of another one from now on", 1, x.handOver(0, 0, 1));
        Check.due("the new owner", 1, x.open(2, 0, false));
        Check.due("the owner of before", -6, x.open(0, 0, false));
        x.setNumber(0, 1);
        Check.due("one that takes the number of the owner", 1, x.open(0, 0, false));
        RoomNumbers y = Houses.mapped();
        y.makeFile(0, 1);
        y.setNumber(1, 0);
        y.drop(1, 4);
        Check.due("the owner is 0 outside, the process is 0 in its room", -6, y.open(1, 0, false));
    }

    private static void orIfItHasOverride() {
        Check.sentence("or if it has OVERRIDE in its own room");
        for (int rights = 0; rights <= 15; rights++) {
            RoomNumbers x = new RoomNumbers();
            x.makeFile(0, 0);
            x.drop(0, 15 - rights);
            int due = rights / 4 % 2 == 1 ? 2 : -6;
            Check.due("the owner with " + rights, due, x.open(0, 0, false));
            Check.due("the owner writes with " + rights, due, x.open(0, 0, true));
        }
        RoomNumbers y = Houses.mapped();
        y.makeFile(0, 0);
        y.drop(0, 4);
        Check.due("OVERRIDE in a room inside, as the owner of that", 15, y.rightsIn(0, 1));
        Check.due("is none in its own room", -6, y.open(0, 0, false));
        y.handOver(0, 0, 100);
        Check.due("also of a file that is seen there", -6, y.open(0, 0, false));
    }

    private static void seenAsAnotherOneThanNobody() {
        Check.sentence("and the owner is seen from there as another one than NOBODY");
        RoomNumbers x = new RoomNumbers();
        x.fork(0);
        x.makeRoom(1);
        x.line(989, 100, 10);
        x.line(0, 300, 1);
        x.writeMap(0, 1);
        x.makeFile(0, 0);
        int[][] due = {
            {99, -2}, {100, 2}, {109, 2}, {110, -2}, {299, -2}, {300, 2}, {301, -2}, {0, -2},
            {998, -2}, {989, -2},
        };
        for (int[] d : due) {
            x.handOver(0, 0, d[0]);
            Check.due("a file of " + d[0], d[1], x.open(1, 0, true));
            Check.due("from the room 0", 2, x.open(0, 0, true));
        }
    }

    private static void makeFileAtItsEdges() {
        Check.sentence("18: mode: 0 to 15; no such process");
        RoomNumbers x = new RoomNumbers();
        Edges.outOfRange("makeFile", 0, 15, mode -> x.makeFile(0, mode));
        Edges.noSuch("makeFile of", 0, process -> x.makeFile(process, 0));
        Check.due("no file", 0, x.files());
        Check.due("the least", 0, x.makeFile(0, 0));
        Check.due("the most", 1, x.makeFile(0, 15));
        RoomNumbers y = Houses.peopled();
        for (int process = 6; process < 12; process++) {
            y.fork(0);
        }
        Edges.noSuch("makeFile with 12 processes", 11, process -> y.makeFile(process, 0));
        Edges.outOfRange("makeFile by one that is not seen", 0, 15, mode -> y.makeFile(1, mode));
        Check.due("the last process", 2, y.makeFile(11, 0));
        Check.due("no refusal", 1, y.refusals());
    }

    private static void makeFileByOneThatIsNotSeen() {
        Check.sentence("18: It is refused with -2 if its number is seen as NOBODY from its room.");
        int[][] lines = {
            {0, 5, 1, 0}, {998, 5, 1, 0}, {0, 4, 1, -2}, {0, 6, 1, -2}, {0, 4, 2, 0}, {0, 5, 2, 0},
            {0, 0, 5, -2}, {0, 0, 6, 0}, {5, 6, 1, -2}, {500, 6, 400, -2}, {0, 0, 999, 0},
        };
        for (int[] l : lines) {
            RoomNumbers x = new RoomNumbers();
            x.fork(0);
            x.setNumber(1, 5);
            Check.due("in the room 0", 0, x.makeFile(1, 0));
            x.makeRoom(1);
            Check.due("without a map", -2, x.makeFile(1, 0));
            x.line(l[0], l[1], l[2]);
            x.writeMap(0, 1);
            Check.due("seen by the line to " + l[1] + " + " + l[2], l[3] == 0 ? 1 : -2,
                    x.makeFile(1, 0));
            Check.due("files", l[3] == 0 ? 2 : 1, x.files());
            Check.due("refusals", l[3] == 0 ? 1 : 2, x.refusals());
        }
    }

    private static void makeFileWith20Files() {
        Check.sentence("18: Throws IllegalStateException if there are 20 files");
        RoomNumbers x = Houses.mapped();
        for (int file = 0; file < 19; file++) {
            x.makeFile(0, 15);
        }
        Check.due("a refusal makes no file", -2, x.makeFile(1, 15));
        Check.due("19 are not 20", 19, x.makeFile(0, 15));
        Check.full("with 20 files", () -> x.makeFile(0, 15));
        Check.full("by one that is not seen", () -> x.makeFile(1, 15));
        Check.due("files", 20, x.files());
        Check.due("refusals", 1, x.refusals());
    }

    private static void handOverAtItsEdges() {
        Check.sentence("19: number: 0 to 998; no such process or file");
        RoomNumbers x = new RoomNumbers();
        Edges.noSuch("handOver without a file", -1, file -> x.handOver(0, file, 0));
        x.makeFile(0, 0);
        Edges.noSuch("handOver of the file", 0, file -> x.handOver(0, file, 0));
        Edges.noSuch("handOver by", 0, process -> x.handOver(process, 0, 0));
        Edges.outOfRange("handOver to", 0, 998, number -> x.handOver(0, 0, number));
        Check.due("the owner", 0, x.ownerSeenBy(0, 0));
        Check.due("the most", 998, x.handOver(0, 0, 998));
        Check.due("the least", 0, x.handOver(0, 0, 0));
        RoomNumbers y = Houses.full();
        Edges.noSuch("handOver of 20 files", 19, file -> y.handOver(0, file, 0));
        Edges.noSuch("handOver by 12", 11, process -> y.handOver(process, 0, 0));
        Edges.outOfRange("handOver by one without CHOWN", 0, 998,
                number -> y.handOver(4, 0, number));
        Edges.outOfRange("handOver by one without a map", 0, 998,
                number -> y.handOver(1, 0, number));
        Check.due("the last file, by the last process", 7, y.handOver(11, 19, 7));
        Check.due("no refusal", 1, y.refusals());
    }

    private static void handOverToNowhere() {
        Check.sentence("19: It is refused with -2 if the number leads nowhere");
        RoomNumbers x = new RoomNumbers();
        x.makeFile(0, 0);
        x.fork(0);
        x.makeRoom(1);
        x.line(10, 0, 10);
        x.line(998, 300, 1);
        x.writeMap(0, 1);
        int[][] due = {
            {9, -2}, {10, 0}, {19, 9}, {20, -2}, {997, -2}, {998, 300}, {0, -2}, {300, -2},
        };
        for (int[] d : due) {
            Check.due("handOver(1, 0, " + d[0] + ")", d[1], x.handOver(1, 0, d[0]));
        }
        Check.due("the owner", 300, x.ownerSeenBy(0, 0));
        Check.due("in the room 0 each number leads somewhere", 997, x.handOver(0, 0, 997));
    }

    private static void handOverOfAnUnseenOwner() {
        Check.sentence("19: with -2 if .. the owner is seen as NOBODY from its room");
        int[][] due = {{99, -2}, {100, 104}, {109, 104}, {110, -2}, {0, -2}, {998, -2}, {4, -2}};
        for (int[] d : due) {
            RoomNumbers x = Houses.mapped();
            x.makeFile(0, 0);
            x.handOver(0, 0, d[0]);
            Check.due("the file of " + d[0], d[1], x.handOver(1, 0, 4));
            Check.due("its owner then", d[1] == -2 ? d[0] : 104, x.ownerSeenBy(0, 0));
            Check.due("in the room 0 each one is seen", 500, x.handOver(0, 0, 500));
        }
    }

    private static void handOverWithChown() {
        Check.sentence("19: with -1 if it does not have CHOWN in its room");
        for (int rights = 0; rights <= 15; rights++) {
            RoomNumbers x = Houses.mapped();
            x.makeFile(0, 0);
            x.handOver(0, 0, 100);
            x.setNumber(1, 3);
            x.makeFile(1, 0);
            x.drop(1, 15 - rights);
            boolean may = rights / 2 % 2 == 1;
            Check.due("of another one with " + rights, may ? 109 : -1, x.handOver(1, 0, 9));
            Check.due("of its own with " + rights, may ? 109 : -1, x.handOver(1, 1, 9));
            Check.due("the owner then", may ? 109 : 100, x.ownerSeenBy(0, 0));
            Check.due("the owner of its own then", may ? 109 : 103, x.ownerSeenBy(0, 1));
        }
        RoomNumbers y = Houses.mapped();
        y.makeFile(0, 0);
        y.drop(0, 2);
        Check.due("CHOWN in a room inside, as the owner of that", 15, y.rightsIn(0, 1));
        Check.due("is none in its own room", -1, y.handOver(0, 0, 5));
        Check.due("not even to the owner that it has", -1, y.handOver(0, 0, 0));
    }

    private static void theNewOwner() {
        Check.sentence("19: Returns the outermost number of the new owner");
        RoomNumbers x = Houses.mapped();
        x.makeFile(0, 0);
        Check.due("from the room 0", 109, x.handOver(0, 0, 109));
        Check.due("from the room 1, not the number of the room", 100, x.handOver(1, 0, 0));
        Check.due("to the owner that it has", 100, x.handOver(1, 0, 0));
        Check.due("the owner", 100, x.ownerSeenBy(0, 0));
        Check.due("files", 1, x.files());
    }

    private static void openAtItsEdges() {
        Check.sentence("20: Throws IndexOutOfBoundsException if there is no such process or file");
        RoomNumbers x = new RoomNumbers();
        Edges.noSuch("open without a file", -1, file -> x.open(0, file, false));
        x.makeFile(0, 15);
        Edges.noSuch("open of the file", 0, file -> x.open(0, file, true));
        Edges.noSuch("open by", 0, process -> x.open(process, 0, false));
        Check.due("the file 0", 1, x.open(0, 0, true));
        RoomNumbers y = Houses.full();
        Edges.noSuch("open of 20 files", 19, file -> y.open(4, file, false));
        Edges.noSuch("open by 12", 11, process -> y.open(process, 19, true));
        Check.due("the last file, by the last process", 1, y.open(11, 19, false));
        Check.due("no refusal", 1, y.refusals());
    }

    private static void theModeAndNoOverride() {
        Check.sentence("20: It is refused with -6 if the mode does not allow it and it does not "
                + "have OVERRIDE in its room");
        RoomNumbers x = Houses.mapped();
        x.makeFile(0, 4);
        x.makeFile(0, 0);
        x.handOver(0, 0, 50);
        x.drop(1, 4);
        Check.due("the mode does, and the owner is not seen", 1, x.open(1, 0, false));
        Check.due("the mode does not, and the owner is not seen", -6, x.open(1, 0, true));
        Check.due("the mode does not, for the owner, who is not seen", -6, x.open(1, 1, true));
        x.handOver(0, 0, 100);
        Check.due("the mode does not, and the owner is seen", -6, x.open(1, 0, true));
        Check.due("the mode does, and the owner is seen", 1, x.open(1, 0, false));
        Check.due("refusals", 3, x.refusals());
        Check.due("lastRefusal", -6, x.lastRefusal());
    }

    private static void overrideAndNobody() {
        Check.sentence("20: with -2 if it has that, but the owner is seen as NOBODY");
        RoomNumbers x = Houses.mapped();
        x.makeFile(0, 0);
        Check.due("OVERRIDE alone", 4, x.drop(1, 11));
        Check.due("its own file, and it is not seen", -2, x.open(1, 0, false));
        x.handOver(0, 0, 99);
        Check.due("a file of one that is not seen", -2, x.open(1, 0, true));
        x.handOver(0, 0, 100);
        Check.due("seen as 0", 2, x.open(1, 0, true));
        x.makeRoom(1);
        Check.due("from a room without a map", -2, x.open(1, 0, true));
        Check.due("refusals", 3, x.refusals());
        Check.due("lastRefusal", -2, x.lastRefusal());
    }

    private static void oneByTheModeTwoByOverride() {
        Check.sentence("20: Returns 1 if the mode allows it, 2 if OVERRIDE does; or a refusal.");
        for (int mode = 0; mode <= 15; mode++) {
            for (int rights = 0; rights <= 4; rights += 4) {
                for (int owner : new int[] {0, 99, 100}) {
                    openAll(mode, rights, owner);
                }
            }
        }
    }

    /** The process 1 has the number 0, and sees 100, but neither 0 nor 99. */
    private static void openAll(int mode, int rights, int owner) {
        RoomNumbers x = Houses.mapped();
        x.makeFile(0, mode);
        x.handOver(0, 0, owner);
        x.drop(1, 15 - rights);
        int reads = owner == 0 ? 1 : 4;
        int writes = owner == 0 ? 2 : 8;
        int without = rights == 0 ? -6 : owner == 100 ? 2 : -2;
        String what = " of the mode " + mode + ", the rights " + rights + ", the owner " + owner;
        Check.due("reading" + what, (mode & reads) != 0 ? 1 : without, x.open(1, 0, false));
        Check.due("writing" + what, (mode & writes) != 0 ? 1 : without, x.open(1, 0, true));
    }

    private static void ownerSeenByAtItsEdges() {
        Check.sentence("21: Returns the number; NOBODY if the owner is not seen.");
        RoomNumbers x = new RoomNumbers();
        Edges.noSuch("ownerSeenBy without a file", -1, file -> x.ownerSeenBy(0, file));
        x.makeFile(0, 0);
        Edges.noSuch("ownerSeenBy of the file", 0, file -> x.ownerSeenBy(0, file));
        Edges.noSuch("ownerSeenBy by", 0, process -> x.ownerSeenBy(process, 0));
        int[][] due = {
            {0, 0, 999}, {99, 99, 999}, {100, 100, 0}, {109, 109, 9}, {110, 110, 999},
            {998, 998, 999}, {5, 5, 999},
        };
        RoomNumbers y = Houses.mapped();
        y.makeFile(0, 0);
        for (int[] d : due) {
            y.handOver(0, 0, d[0]);
            Check.due("from the room 0", d[1], y.ownerSeenBy(0, 0));
            Check.due("from the room 1", d[2], y.ownerSeenBy(1, 0));
        }
        RoomNumbers z = Houses.full();
        Edges.noSuch("ownerSeenBy of 20 files", 19, file -> z.ownerSeenBy(0, file));
        Edges.noSuch("ownerSeenBy by 12", 11, process -> z.ownerSeenBy(process, 0));
        Check.due("the last file, by the last process", 0, z.ownerSeenBy(11, 19));
        Check.due("NOBODY is no refusal", 999, z.ownerSeenBy(1, 19));
        Check.due("refusals", 1, z.refusals());
    }

    private static void filesCounted() {
        Check.sentence("22: Returns how many files there are.");
        RoomNumbers x = Houses.mapped();
        Check.due("at first", 0, x.files());
        for (int files = 1; files <= 20; files++) {
            x.makeFile(0, 15);
            Check.due("files", files, x.files());
            x.handOver(0, 0, files);
            x.open(0, 0, true);
        }
        Check.full("one more", () -> x.makeFile(0, 15));
        Check.due("at last", 20, x.files());
        RoomNumbers y = Houses.mapped();
        y.makeFile(1, 15);
        Check.due("a refused one is none", 0, y.files());
    }

    private static void callsRefusedSoFar() {
        Check.sentence("23: Returns how many calls were refused so far.");
        RoomNumbers x = new RoomNumbers();
        Check.due("none", 0, x.refusals());
        for (int k = 1; k <= 250; k++) {
            Check.due("refused", -5, x.enter(0, 0));
            Check.due("refusals", k, x.refusals());
        }
        RoomNumbers y = Houses.peopled();
        Twins.Call[] calls = {
            h -> h.writeMap(0, 1), h -> h.enter(0, 0), h -> h.enter(3, 3), h -> h.setNumber(1, 5),
            h -> h.setNumber(4, 7), h -> h.makeFile(1, 3), h -> h.handOver(1, 0, 5),
            h -> h.handOver(4, 0, 7), h -> h.open(4, 0, false), h -> h.open(5, 0, false),
        };
        int[] due = {-4, -5, -1, -2, -1, -2, -2, -1, -6, -2};
        for (int k = 0; k < calls.length; k++) {
            Check.due("the refusal " + k, due[k], calls[k].on(y));
            Check.due("refusals after it", 2 + k, y.refusals());
            Check.due("lastRefusal after it", due[k], y.lastRefusal());
            Check.due("refusals after that", 2 + k, y.refusals());
        }
    }

    private static void asManyAsThereAreCalls() {
        Check.sentence("23: An object is used for at most 512 calls after it has been made");
        RoomNumbers x = new RoomNumbers();
        for (int call = 1; call <= 511; call++) {
            Check.due("the call " + call, -5, x.enter(0, 0));
        }
        Check.due("the call 512", 511, x.refusals());
    }

    private static void theLatestRefusal() {
        Check.sentence("24: Returns the latest refusal");
        RoomNumbers x = Houses.peopled();
        Check.due("-5", -5, x.lastRefusal());
        x.writeMap(0, 3);
        Check.due("-3", -3, x.lastRefusal());
        x.writeMap(0, 1);
        Check.due("-4, which is less", -4, x.lastRefusal());
        x.open(4, 0, false);
        Check.due("-6", -6, x.lastRefusal());
        x.handOver(4, 0, 7);
        Check.due("-1", -1, x.lastRefusal());
        x.makeFile(1, 3);
        Check.due("-2", -2, x.lastRefusal());
        x.makeFile(0, 3);
        x.open(0, 2, true);
        x.setNumber(0, 0);
        x.enter(0, 1);
        Check.due("calls that are not refused leave it", -2, x.lastRefusal());
        Check.noSuch("an exception", () -> x.enter(0, 10));
        Check.outOfRange("another one", () -> x.setNumber(0, 999));
        Check.due("exceptions leave it", -2, x.lastRefusal());
        Check.due("refusals", 6, x.refusals());
    }

    private static void zeroIfThereWasNone() {
        Check.sentence("24: 0 if there was none");
        RoomNumbers x = new RoomNumbers();
        Check.due("at first", 0, x.lastRefusal());
        x.makeFile(0, 15);
        x.open(0, 0, true);
        x.fork(0);
        x.makeRoom(0);
        Check.noSuch("an exception", () -> x.open(0, 1, true));
        Check.due("without a refusal", 0, x.lastRefusal());
        x.enter(0, 1);
        Check.due("after the first one", -5, x.lastRefusal());
    }

    private static void noneIsNoRefusal() {
        Check.sentence("23: how many calls were refused: answers below 0 of questions are none");
        RoomNumbers x = Houses.withRoom();
        Check.due("outerOf", -1, x.outerOf(0));
        Check.due("leadsTo", -1, x.leadsTo(1, 0));
        Check.due("seenAs", 999, x.seenAs(1, 0));
        Check.due("seenByLeading", 999, x.seenByLeading(1, 0));
        Check.due("refusals", 0, x.refusals());
        Check.due("lastRefusal", 0, x.lastRefusal());
    }

    private FileEdgesTest() {
    }
}
