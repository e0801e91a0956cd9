/** Nothing else has changed behind an exception, a refusal or a question. */
public final class UnchangedTest {
    private static final String NO_SUCH = "IndexOutOfBoundsException";
    private static final String OUT_OF_RANGE = "IllegalArgumentException";
    private static final String FULL = "IllegalStateException";

    public static void main(String[] args) {
        Check.sentence("A call that throws an exception changes nothing.");
        exceptionsIn(RoomNumbers::new);
        exceptionsIn(Houses::drafted);
        exceptionsIn(Houses::full);
        exceptionsOfFullHouses();
        Check.sentence("Some calls return a refusal, below 0, and change nothing then");
        refusals();
        refusalsOfWriteMap();
        Check.sentence("Questions change nothing.");
        questionsIn(RoomNumbers::new);
        questionsIn(Houses::drafted);
        questionsIn(Houses::full);
        Check.end();
    }

    private static void exceptionsIn(Twins.House house) {
        exception("makeRoom of no process", NO_SUCH, house, x -> x.makeRoom(12));
        exception("line from -1", OUT_OF_RANGE, house, x -> x.line(-1, 0, 1));
        exception("line from 999", OUT_OF_RANGE, house, x -> x.line(999, 0, 1));
        exception("line to -1", OUT_OF_RANGE, house, x -> x.line(0, -1, 1));
        exception("line to 999", OUT_OF_RANGE, house, x -> x.line(0, 999, 1));
        exception("line of 0", OUT_OF_RANGE, house, x -> x.line(0, 0, 0));
        exception("line of 1000", OUT_OF_RANGE, house, x -> x.line(0, 0, 1000));
        exception("line up to 999", OUT_OF_RANGE, house, x -> x.line(998, 0, 2));
        exception("line up to 999 outside", OUT_OF_RANGE, house, x -> x.line(0, 998, 2));
        exception("writeMap of no process", NO_SUCH, house, x -> x.writeMap(12, 1));
        exception("writeMap of no room", NO_SUCH, house, x -> x.writeMap(0, 10));
        exception("writeMap of the room 0", NO_SUCH, house, x -> x.writeMap(0, 0));
        exception("fork of no process", NO_SUCH, house, x -> x.fork(12));
        exception("drop of no process", NO_SUCH, house, x -> x.drop(12, 15));
        exception("drop of -1", OUT_OF_RANGE, house, x -> x.drop(0, -1));
        exception("drop of 16", OUT_OF_RANGE, house, x -> x.drop(0, 16));
        exception("drop of 31", OUT_OF_RANGE, house, x -> x.drop(0, 31));
        exception("enter of no process", NO_SUCH, house, x -> x.enter(12, 0));
        exception("enter of no room", NO_SUCH, house, x -> x.enter(0, 10));
        exception("setNumber of no process", NO_SUCH, house, x -> x.setNumber(12, 1));
        exception("setNumber to -1", OUT_OF_RANGE, house, x -> x.setNumber(0, -1));
        exception("setNumber to 999", OUT_OF_RANGE, house, x -> x.setNumber(0, 999));
        exception("makeFile of no process", NO_SUCH, house, x -> x.makeFile(12, 15));
        exception("makeFile with -1", OUT_OF_RANGE, house, x -> x.makeFile(0, -1));
        exception("makeFile with 16", OUT_OF_RANGE, house, x -> x.makeFile(0, 16));
        exception("handOver of no process", NO_SUCH, house, x -> x.handOver(12, 0, 1));
        exception("handOver of no file", NO_SUCH, house, x -> x.handOver(0, 20, 1));
        exception("open of no process", NO_SUCH, house, x -> x.open(12, 0, true));
        exception("open of no file", NO_SUCH, house, x -> x.open(0, 20, true));
    }

    private static void exceptionsOfFullHouses() {
        Twins.House full = Houses::full;
        exception("makeRoom with 10 rooms", FULL, full, x -> x.makeRoom(0));
        exception("makeRoom in a room, with 10", FULL, full, x -> x.makeRoom(6));
        exception("line with 3 lines", FULL, full, x -> x.line(500, 500, 2));
        exception("fork with 12 processes", FULL, full, x -> x.fork(0));
        exception("makeFile with 20 files", FULL, full, x -> x.makeFile(0, 3));
        exception("makeFile of an unseen one, with 20", FULL, full, x -> x.makeFile(1, 3));
        exception("handOver to -1", OUT_OF_RANGE, full, x -> x.handOver(0, 0, -1));
        exception("handOver to 999", OUT_OF_RANGE, full, x -> x.handOver(0, 0, 999));
    }

    private static void exception(String what, String name, Twins.House house, Twins.Call call) {
        Twins.unchangedByException(what, name, house, call);
    }

    private static void refusals() {
        refusal("enter its own room", -5, x -> x.enter(2, 3));
        refusal("enter the outer room", -5, x -> x.enter(1, 1));
        refusal("enter without ADMIN", -1, x -> x.enter(3, 3));
        refusal("setNumber to nowhere", -2, x -> x.setNumber(1, 5));
        refusal("setNumber to nowhere as 0", -2, x -> x.setNumber(5, 10));
        refusal("setNumber without SETNUMBER", -1, x -> x.setNumber(4, 7));
        refusal("makeFile of an unseen one", -2, x -> x.makeFile(1, 3));
        refusal("handOver to nowhere", -2, x -> x.handOver(1, 0, 5));
        refusal("handOver of an unseen owner", -2, x -> x.handOver(5, 0, 3));
        refusal("handOver without CHOWN", -1, x -> x.handOver(4, 0, 7));
        refusal("open without OVERRIDE", -6, x -> x.open(4, 0, false));
        refusal("open of an unseen owner", -2, x -> x.open(5, 0, false));
    }

    private static void refusal(String what, int refusal, Twins.Call call) {
        Twins.unchangedByRefusal(what, refusal, Houses::peopled, call);
        Twins.unchangedByRefusal(what + ", with a draft", refusal, Houses::drafted, call);
    }

    /** Behind these the draft has no lines, as in the twin that never had a line. */
    private static void refusalsOfWriteMap() {
        Twins.House house = Houses::peopled;
        Twins.unchangedByRefusal("writeMap of a room with a map", -4, house, x -> {
            x.line(500, 500, 2);
            return x.writeMap(0, 1);
        });
        Twins.unchangedByRefusal("writeMap without a line", -3, house, x -> x.writeMap(0, 3));
        Twins.unchangedByRefusal("writeMap of lines that overlap", -3, house, x -> {
            x.line(500, 500, 2);
            x.line(501, 510, 2);
            x.line(600, 600, 2);
            return x.writeMap(0, 3);
        });
        Twins.unchangedByRefusal("writeMap to nowhere", -2, house, x -> {
            x.line(500, 9, 2);
            return x.writeMap(0, 2);
        });
        Twins.unchangedByRefusal("writeMap without SETNUMBER", -1, house, x -> {
            x.line(500, 105, 2);
            return x.writeMap(2, 3);
        });
    }

    private static void questionsIn(Twins.House house) {
        question("rooms", house, x -> x.rooms());
        question("processes", house, x -> x.processes());
        question("files", house, x -> x.files());
        question("refusals", house, x -> x.refusals());
        question("lastRefusal", house, x -> x.lastRefusal());
        for (int k : new int[] {-1, 0, 1, 3, 9, 10, 11, 12, 19, 20}) {
            question("outerOf", house, x -> x.outerOf(k));
            question("roomOf", house, x -> x.roomOf(k));
            question("numberOf", house, x -> x.numberOf(k));
            question("leadsTo", house, x -> x.leadsTo(1, k));
            question("leadsTo of a room", house, x -> x.leadsTo(k, 999));
            question("seenAs", house, x -> x.seenAs(1, 100 + k));
            question("seenAs of a room", house, x -> x.seenAs(k, 998));
            question("seenByLeading", house, x -> x.seenByLeading(1, 100 + k));
            question("seenByLeading of a room", house, x -> x.seenByLeading(k, 998));
            question("rightsIn", house, x -> x.rightsIn(k, 1));
            question("rightsIn of a room", house, x -> x.rightsIn(4, k));
            question("ownerSeenBy", house, x -> x.ownerSeenBy(k, 0));
            question("ownerSeenBy of a file", house, x -> x.ownerSeenBy(5, k));
        }
    }

    private static void question(String what, Twins.House house, Twins.Call call) {
        Twins.unchangedByQuestion(what, house, call);
    }

    private UnchangedTest() {
    }
}
