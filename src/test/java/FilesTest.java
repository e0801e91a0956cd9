/** Promises 18 to 24: files and refusals. */
public final class FilesTest {
    public static void main(String[] args) {
        makeFile();
        makeFileRefused();
        makeFileThrows();
        handOver();
        handOverRefused();
        handOverThrows();
        openByMode();
        openByOverride();
        openRefused();
        openThrows();
        ownerSeenBy();
        refusals();
        Check.end();
    }

    private static void makeFile() {
        RoomNumbers x = Houses.mapped();
        Check.due("makeFile in the room 0", 0, x.makeFile(0, 0));
        Check.due("its owner", 0, x.ownerSeenBy(0, 0));
        x.setNumber(1, 3);
        Check.due("makeFile in the room 1", 1, x.makeFile(1, 15));
        Check.due("its owner", 103, x.ownerSeenBy(0, 1));
        Check.due("files", 2, x.files());
        x.setNumber(1, 4);
        Check.due("the owner stays", 103, x.ownerSeenBy(0, 1));
        x.drop(1, 15);
        Check.due("no right is needed", 2, x.makeFile(1, 5));
        Check.due("refusals", 0, x.refusals());
    }

    private static void makeFileRefused() {
        RoomNumbers x = Houses.mapped();
        Check.due("the number is not seen", -2, x.makeFile(1, 15));
        Check.due("files", 0, x.files());
        Check.due("refusals", 1, x.refusals());
        Check.due("the next file", 0, x.makeFile(0, 15));
    }

    private static void makeFileThrows() {
        RoomNumbers x = Houses.mapped();
        Check.outOfRange("makeFile(0, 16)", () -> x.makeFile(0, 16));
        Check.outOfRange("makeFile(0, -1)", () -> x.makeFile(0, -1));
        Check.outOfRange("makeFile(1, 16), which is not seen", () -> x.makeFile(1, 16));
        Check.noSuch("makeFile(2, 0)", () -> x.makeFile(2, 0));
        Check.noSuch("makeFile(2, 16)", () -> x.makeFile(2, 16));
        Check.noSuch("makeFile(-1, -1)", () -> x.makeFile(-1, -1));
        Check.due("files after exceptions", 0, x.files());
        for (int file = 0; file < 20; file++) {
            Check.due("makeFile", file, x.makeFile(0, file % 16));
        }
        Check.full("makeFile with 20 files", () -> x.makeFile(0, 0));
        Check.full("makeFile of an unseen one with 20 files", () -> x.makeFile(1, 0));
        Check.outOfRange("makeFile(0, 16) with 20 files", () -> x.makeFile(0, 16));
        Check.noSuch("makeFile(2, 0) with 20 files", () -> x.makeFile(2, 0));
        Check.due("files", 20, x.files());
        Check.due("refusals", 0, x.refusals());
    }

    private static void handOver() {
        RoomNumbers x = Houses.mapped();
        x.makeFile(0, 6);
        Check.due("to a number", 105, x.handOver(0, 0, 105));
        Check.due("the new owner", 105, x.ownerSeenBy(0, 0));
        x.drop(1, 13);
        Check.due("CHOWN alone is enough, and any seen file", 109, x.handOver(1, 0, 9));
        Check.due("the new owner", 109, x.ownerSeenBy(0, 0));
        Check.due("to the same one", 109, x.handOver(1, 0, 9));
        Check.due("to a number that is unseen from inside", 998, x.handOver(0, 0, 998));
        x.fork(0);
        x.setNumber(2, 998);
        Check.due("the mode stays: the owner does not read", -6, x.open(2, 0, false));
        Check.due("the mode stays: the owner writes", 1, x.open(2, 0, true));
    }

    private static void handOverRefused() {
        RoomNumbers x = Houses.mapped();
        x.makeFile(0, 15);
        x.setNumber(1, 3);
        x.makeFile(1, 15);
        Check.due("the number leads nowhere", -2, x.handOver(1, 1, 10));
        Check.due("the owner is not seen", -2, x.handOver(1, 0, 3));
        x.drop(1, 2);
        Check.due("nowhere is ahead of the right", -2, x.handOver(1, 1, 998));
        Check.due("not seen is ahead of the right", -2, x.handOver(1, 0, 3));
        Check.due("the right is missing, as the owner of the file too", -1, x.handOver(1, 1, 4));
        x.drop(0, 2);
        Check.due("the right is missing, as the owner of a room too", -1, x.handOver(0, 0, 4));
        Check.due("the owner after refusals", 0, x.ownerSeenBy(0, 0));
        Check.due("the other one after refusals", 103, x.ownerSeenBy(0, 1));
        Check.due("refusals", 6, x.refusals());
        Check.due("last refusal", -1, x.lastRefusal());
    }

    private static void handOverThrows() {
        RoomNumbers x = Houses.mapped();
        x.makeFile(0, 15);
        Check.outOfRange("handOver(0, 0, -1)", () -> x.handOver(0, 0, -1));
        Check.outOfRange("handOver(0, 0, 999)", () -> x.handOver(0, 0, 999));
        Check.outOfRange("handOver(1, 0, 999)", () -> x.handOver(1, 0, 999));
        Check.noSuch("handOver(0, 1, 0)", () -> x.handOver(0, 1, 0));
        Check.noSuch("handOver(0, -1, 999)", () -> x.handOver(0, -1, 999));
        Check.noSuch("handOver(0, 20, 0)", () -> x.handOver(0, 20, 0));
        Check.noSuch("handOver(2, 0, 0)", () -> x.handOver(2, 0, 0));
        Check.noSuch("handOver(-1, 0, -1)", () -> x.handOver(-1, 0, -1));
        Check.due("the owner", 0, x.ownerSeenBy(0, 0));
        Check.due("refusals", 0, x.refusals());
    }

    private static void openByMode() {
        for (int mode = 0; mode <= 15; mode++) {
            RoomNumbers x = new RoomNumbers();
            x.makeFile(0, mode);
            x.fork(0);
            x.drop(0, 4);
            x.setNumber(1, 8);
            Check.due("the owner reads " + mode, (mode & 1) != 0 ? 1 : -6, x.open(0, 0, false));
            Check.due("the owner writes " + mode, (mode & 2) != 0 ? 1 : -6, x.open(0, 0, true));
            Check.due("another reads " + mode, (mode & 4) != 0 ? 1 : -6, x.open(1, 0, false));
            Check.due("another writes " + mode, (mode & 8) != 0 ? 1 : -6, x.open(1, 0, true));
            Check.due("refusals", 4 - Integer.bitCount(mode), x.refusals());
        }
    }

    private static void openByOverride() {
        RoomNumbers x = Houses.mapped();
        x.makeFile(0, 1);
        x.handOver(0, 0, 100);
        x.drop(0, 11);
        x.drop(1, 11);
        Check.due("OVERRIDE in the room 0", 2, x.open(0, 0, true));
        Check.due("OVERRIDE in a room, the owner is seen as 0", 2, x.open(1, 0, false));
        Check.due("refusals", 0, x.refusals());
        RoomNumbers y = Houses.mapped();
        y.makeFile(0, 13);
        Check.due("the mode is ahead of OVERRIDE", 1, y.open(0, 0, false));
        Check.due("OVERRIDE does what the mode does not", 2, y.open(0, 0, true));
        Check.due("the process 1 is the owner", 1, y.open(1, 0, false));
    }

    private static void openRefused() {
        RoomNumbers x = Houses.mapped();
        x.makeFile(0, 4);
        x.makeFile(0, 0);
        x.handOver(0, 0, 99);
        Check.due("the mode allows it, though the owner is not seen", 1, x.open(1, 0, false));
        Check.due("the owner is not seen", -2, x.open(1, 0, true));
        Check.due("the own file is not seen", -2, x.open(1, 1, true));
        x.drop(1, 4);
        Check.due("without OVERRIDE, the mode", -6, x.open(1, 0, true));
        Check.due("without OVERRIDE, the mode again", -6, x.open(1, 1, false));
        Check.due("without OVERRIDE, the mode allows it", 1, x.open(1, 0, false));
        x.drop(0, 4);
        Check.due("the owner of a room inside has no OVERRIDE outside", -6, x.open(0, 1, true));
        Check.due("refusals", 5, x.refusals());
        Check.due("last refusal", -6, x.lastRefusal());
    }

    private static void openThrows() {
        RoomNumbers x = Houses.mapped();
        x.makeFile(0, 15);
        for (int none : new int[] {-1, 2, 12, 20, Integer.MAX_VALUE, Integer.MIN_VALUE}) {
            Check.noSuch("open(" + none + ", 0, true)", () -> x.open(none, 0, true));
            Check.noSuch("open(0, " + none + ", false)", () -> x.open(0, none, false));
            Check.noSuch("ownerSeenBy(" + none + ", 0)", () -> x.ownerSeenBy(none, 0));
            Check.noSuch("ownerSeenBy(0, " + none + ")", () -> x.ownerSeenBy(0, none));
        }
        Check.noSuch("open(0, 1, true)", () -> x.open(0, 1, true));
        Check.noSuch("ownerSeenBy(0, 1)", () -> x.ownerSeenBy(0, 1));
        Check.due("refusals", 0, x.refusals());
    }

    private static void ownerSeenBy() {
        RoomNumbers x = Houses.mapped();
        x.makeFile(0, 15);
        Check.due("from the room 0", 0, x.ownerSeenBy(0, 0));
        Check.due("not seen", RoomNumbers.NOBODY, x.ownerSeenBy(1, 0));
        x.handOver(0, 0, 100);
        Check.due("seen as 0", 0, x.ownerSeenBy(1, 0));
        x.handOver(0, 0, 109);
        Check.due("seen as 9", 9, x.ownerSeenBy(1, 0));
        Check.due("from the room 0", 109, x.ownerSeenBy(0, 0));
        x.handOver(0, 0, 110);
        Check.due("not seen", RoomNumbers.NOBODY, x.ownerSeenBy(1, 0));
        Check.due("no refusal", 0, x.refusals());
    }

    private static void refusals() {
        RoomNumbers x = Houses.mapped();
        Check.due("none", 0, x.refusals());
        Check.due("no last one", 0, x.lastRefusal());
        x.enter(0, 0);
        Check.due("enter", -5, x.lastRefusal());
        x.setNumber(1, 99);
        Check.due("setNumber", -2, x.lastRefusal());
        x.writeMap(0, 1);
        Check.due("writeMap", -4, x.lastRefusal());
        x.makeFile(1, 0);
        Check.due("makeFile", -2, x.lastRefusal());
        x.makeFile(0, 0);
        Check.due("a call that is not refused leaves it", -2, x.lastRefusal());
        x.drop(0, 4);
        x.open(0, 0, true);
        Check.due("open", -6, x.lastRefusal());
        x.drop(0, 2);
        x.handOver(0, 0, 1);
        Check.due("handOver", -1, x.lastRefusal());
        Check.noSuch("open of no file", () -> x.open(0, 1, true));
        Check.due("an exception leaves it", -1, x.lastRefusal());
        Check.due("a question that answers below 0", -1, x.outerOf(0));
        Check.due("another one", -1, x.leadsTo(1, 99));
        Check.due("questions leave it", -1, x.lastRefusal());
        Check.due("refusals", 6, x.refusals());
    }

    private FilesTest() {
    }
}
