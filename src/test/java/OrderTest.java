/** Two refusals or two exceptions at once, and an exception and a refusal. */
public final class OrderTest {
    private static final String NO_SUCH = "IndexOutOfBoundsException";
    private static final String OUT_OF_RANGE = "IllegalArgumentException";
    private static final String FULL = "IllegalStateException";

    public static void main(String[] args) {
        refusalsOfWriteMap();
        refusalsOfEnter();
        refusalsOfSetNumber();
        refusalsOfHandOver();
        refusalsOfOpen();
        exceptionsInTheirOrder();
        exceptionsBeforeRefusals();
        Check.end();
    }

    private static final String REFUSALS = "If several apply, the first one of those that the call "
            + "tells, in their order, is returned.";

    /** Each set of the four: a map, a draft that is not as allowed, nowhere, the right missing. */
    private static void refusalsOfWriteMap() {
        Check.sentence("4: " + REFUSALS);
        for (int set = 0; set < 16; set++) {
            for (int empty = 0; empty < 2; empty++) {
                boolean mapped = (set & 1) != 0;
                boolean wrong = (set & 2) != 0;
                boolean nowhere = (set & 4) != 0;
                boolean missing = (set & 8) != 0;
                if (empty == 1 && (!wrong || nowhere)) {
                    continue;
                }
                RoomNumbers x = withInnerRoom(mapped);
                if (empty == 0) {
                    x.line(500, nowhere ? 10 : 0, 2);
                    x.line(wrong ? 501 : 502, 5, 2);
                }
                int due = mapped ? -4 : wrong ? -3 : nowhere ? -2 : missing ? -1 : 2;
                Check.due("writeMap, set " + set + ", empty " + empty, due,
                        x.writeMap(missing ? 1 : 0, 2));
            }
        }
    }

    /** The room 2 lies in 1, which has 0 to 9; the process 1 has no right in it, 0 has. */
    private static RoomNumbers withInnerRoom(boolean mapped) {
        RoomNumbers x = Houses.mapped();
        x.makeRoom(1);
        if (mapped) {
            x.line(0, 0, 1);
            Check.due("the inner map", 1, x.writeMap(0, 2));
        }
        return x;
    }

    private static void refusalsOfEnter() {
        Check.sentence("12: " + REFUSALS);
        RoomNumbers x = Houses.peopled();
        Check.due("not inside, with ADMIN", -5, x.enter(0, 0));
        Check.due("not inside, without ADMIN", -5, x.enter(4, 0));
        Check.due("inside, without ADMIN", -1, x.enter(4, 3));
        x.drop(2, 1);
        Check.due("the room outside, without ADMIN", -5, x.enter(2, 0));
        Check.due("a room beside, without ADMIN", -5, x.enter(2, 1));
        Check.due("inside, with ADMIN", 15, x.enter(0, 3));
    }

    private static void refusalsOfSetNumber() {
        Check.sentence("13: " + REFUSALS);
        RoomNumbers x = Houses.mapped();
        Check.due("nowhere, with SETNUMBER", -2, x.setNumber(1, 10));
        x.drop(1, 8);
        Check.due("nowhere, without SETNUMBER", -2, x.setNumber(1, 10));
        Check.due("somewhere, without SETNUMBER", -1, x.setNumber(1, 9));
    }

    private static void refusalsOfHandOver() {
        Check.sentence("19: " + REFUSALS);
        for (int set = 0; set < 8; set++) {
            RoomNumbers x = Houses.mapped();
            x.makeFile(0, 0);
            x.handOver(0, 0, (set & 1) != 0 ? 50 : 105);
            x.drop(1, (set & 2) != 0 ? 2 : 0);
            int due = (set & 5) != 0 ? -2 : (set & 2) != 0 ? -1 : 109;
            Check.due("handOver, set " + set, due, x.handOver(1, 0, (set & 4) != 0 ? 10 : 9));
        }
    }

    private static void refusalsOfOpen() {
        Check.sentence("20: " + REFUSALS);
        for (int set = 0; set < 8; set++) {
            RoomNumbers x = Houses.mapped();
            x.makeFile(0, (set & 1) != 0 ? 0 : 4);
            x.handOver(0, 0, (set & 2) != 0 ? 50 : 105);
            x.drop(1, (set & 4) != 0 ? 4 : 0);
            int due = (set & 1) == 0 ? 1 : (set & 4) != 0 ? -6 : (set & 2) != 0 ? -2 : 2;
            Check.due("open, set " + set, due, x.open(1, 0, false));
        }
    }

    private static void exceptionsInTheirOrder() {
        Check.sentence("If several apply, the one that is named first in the throws clause is "
                + "thrown.");
        RoomNumbers x = Houses.full();
        order("makeRoom, no process, 10 rooms", NO_SUCH, () -> x.makeRoom(12));
        order("makeRoom, 10 rooms", FULL, () -> x.makeRoom(0));
        order("line, first, 3 lines", OUT_OF_RANGE, () -> x.line(-1, 0, 1));
        order("line, outer, 3 lines", OUT_OF_RANGE, () -> x.line(0, 999, 1));
        order("line, length, 3 lines", OUT_OF_RANGE, () -> x.line(0, 0, 0));
        order("line, above 998, 3 lines", OUT_OF_RANGE, () -> x.line(998, 0, 2));
        order("line, all of them", OUT_OF_RANGE, () -> x.line(999, -1, 1000));
        order("line, 3 lines", FULL, () -> x.line(0, 0, 1));
        order("leadsTo, no room, number", NO_SUCH, () -> x.leadsTo(10, 999));
        order("leadsTo, number", OUT_OF_RANGE, () -> x.leadsTo(9, 999));
        order("seenAs, no room, number", NO_SUCH, () -> x.seenAs(-1, 999));
        order("seenAs, number", OUT_OF_RANGE, () -> x.seenAs(0, 999));
        order("seenByLeading, no room, number", NO_SUCH, () -> x.seenByLeading(10, -1));
        order("seenByLeading, number", OUT_OF_RANGE, () -> x.seenByLeading(9, -1));
        order("fork, no process, 12 processes", NO_SUCH, () -> x.fork(12));
        order("fork, 12 processes", FULL, () -> x.fork(11));
        order("drop, no process, rights", NO_SUCH, () -> x.drop(12, 16));
        order("drop, rights", OUT_OF_RANGE, () -> x.drop(11, 16));
        order("setNumber, no process, number", NO_SUCH, () -> x.setNumber(-1, 999));
        order("setNumber, number", OUT_OF_RANGE, () -> x.setNumber(0, 999));
        order("makeFile, no process, mode, 20 files", NO_SUCH, () -> x.makeFile(12, 16));
        order("makeFile, no process, 20 files", NO_SUCH, () -> x.makeFile(12, 15));
        order("makeFile, mode, 20 files", OUT_OF_RANGE, () -> x.makeFile(11, 16));
        order("makeFile, 20 files", FULL, () -> x.makeFile(11, 15));
        order("handOver, no process, no file, number", NO_SUCH, () -> x.handOver(12, 20, 999));
        order("handOver, no process, number", NO_SUCH, () -> x.handOver(12, 0, 999));
        order("handOver, no file, number", NO_SUCH, () -> x.handOver(0, 20, 999));
        order("handOver, number", OUT_OF_RANGE, () -> x.handOver(0, 19, 999));
        RoomNumbers y = Houses.drafted();
        order("makeFile, no process, mode", NO_SUCH, () -> y.makeFile(6, 16));
        order("makeFile, mode", OUT_OF_RANGE, () -> y.makeFile(5, 16));
    }

    private static void order(String what, String exception, Check.Call call) {
        Check.due(what, exception, Check.answerOf(call));
    }

    private static void exceptionsBeforeRefusals() {
        Check.sentence("Throws .., and would be refused too");
        RoomNumbers x = Houses.full();
        order("writeMap of the room 0, no right", NO_SUCH, () -> x.writeMap(4, 0));
        order("writeMap of no room, no right", NO_SUCH, () -> x.writeMap(4, 10));
        order("enter of no room, no right", NO_SUCH, () -> x.enter(4, 10));
        order("setNumber, nowhere", OUT_OF_RANGE, () -> x.setNumber(1, 999));
        order("setNumber, no right", OUT_OF_RANGE, () -> x.setNumber(4, -1));
        order("makeFile, not seen, mode", OUT_OF_RANGE, () -> x.makeFile(1, 16));
        order("makeFile, not seen, 20 files", FULL, () -> x.makeFile(1, 15));
        order("handOver, nowhere", OUT_OF_RANGE, () -> x.handOver(1, 0, 999));
        order("handOver, no right, no file", NO_SUCH, () -> x.handOver(4, 20, 0));
        order("open, no right, no file", NO_SUCH, () -> x.open(4, 20, false));
        Check.due("refusals", 1, x.refusals());
        Check.due("lastRefusal", -5, x.lastRefusal());
    }

    private OrderTest() {
    }
}
