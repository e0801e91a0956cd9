import java.io.IOException;
import java.lang.reflect.Method;
import java.lang.reflect.Modifier;
import java.nio.file.Files;
import java.nio.file.Path;
import java.util.List;
import java.util.TreeMap;

/** What README.md says: its example, its rows of calls, and its words on how to use the class. */
public final class ReadmeTest {
    private static List<String> page;

    public static void main(String[] args) throws IOException {
        page = Files.readAllLines(Path.of("README.md"));
        theExample();
        aRowForEachCall();
        refusalsByCall();
        refusalsAndExceptions();
        whatElseItSays();
        Check.end();
    }

    private static void theExample() {
        Check.sentence("the example of README.md");
        told("RoomNumbers house = new RoomNumbers();", "");
        RoomNumbers house = new RoomNumbers();
        int hand = house.fork(0);
        told("int hand = house.fork(0);", "" + hand);
        int room = house.makeRoom(hand);
        told("int room = house.makeRoom(hand);", "" + room);
        told("house.line(0, 100, 10);", "" + house.line(0, 100, 10));
        told("house.writeMap(0, room);", "" + house.writeMap(0, room));
        told("house.leadsTo(room, 3);", "" + house.leadsTo(room, 3));
        told("house.seenAs(room, 103);", "" + house.seenAs(room, 103));
        told("house.setNumber(hand, 3);", "" + house.setNumber(hand, 3));
        int file = house.makeFile(hand, 1);
        told("int file = house.makeFile(hand, 1);", "" + file);
        told("house.open(hand, file, false);", "" + house.open(hand, file, false));
        told("house.open(0, file, false);", "" + house.open(0, file, false));
        told("house.drop(hand, 15);", "" + house.drop(hand, 15));
        told("house.open(hand, file, true);", "" + house.open(hand, file, true));
        told("house.lastRefusal();", "" + house.lastRefusal());
        told("house.makeFile(hand, 16);",
                "throws " + Check.answerOf(() -> house.makeFile(hand, 16)));
        int from = page.indexOf("```java");
        int to = page.subList(from + 1, page.size()).indexOf("```");
        Check.due("the lines of the example", 15, to);
    }

    /** The example has a line with this call, and tells this answer of it, up to a colon. */
    private static void told(String call, String answer) {
        String seen = "no such line";
        for (String line : page) {
            if (line.startsWith(call)) {
                int at = line.indexOf("// ");
                seen = at < 0 ? "" : line.substring(at + 3).split(":")[0];
            }
        }
        Check.due(call, answer, seen);
    }

    private static void aRowForEachCall() {
        Check.sentence("README.md has a row for each call");
        int calls = 0;
        for (Method method : RoomNumbers.class.getDeclaredMethods()) {
            if (Modifier.isPublic(method.getModifiers())) {
                calls++;
                Check.due("parameters of " + method.getName(), method.getParameterCount(),
                        parametersInRow(method.getName()));
            }
        }
        Check.due("rows of calls", calls, rowsOfCalls().size());
    }

    private static int parametersInRow(String name) {
        for (String call : rowsOfCalls().keySet()) {
            if (call.startsWith(name + "(")) {
                String inside = call.substring(name.length() + 1, call.length() - 1);
                return inside.isEmpty() ? 0 : inside.split(", ").length;
            }
        }
        return -1;
    }

    /** Each call of the tables, with what it is refused with. */
    private static TreeMap<String, String> rowsOfCalls() {
        TreeMap<String, String> rows = new TreeMap<>();
        for (String line : page) {
            String[] cells = line.split("\\|");
            if (cells.length == 4 && cells[1].endsWith(")` ")) {
                String call = cells[1].trim();
                rows.put(call.substring(1, call.length() - 1), cells[3].trim());
            }
        }
        return rows;
    }

    /** As the document tells them of the calls, in their order. */
    private static void refusalsByCall() {
        Check.sentence("README.md tells the refusals of each call in their order");
        TreeMap<String, String> due = new TreeMap<>();
        due.put("writeMap", "-4, -3, -2, -1");
        due.put("enter", "-5, -1");
        due.put("setNumber", "-2, -1");
        due.put("makeFile", "-2");
        due.put("handOver", "-2, -1");
        due.put("open", "-6, -2");
        TreeMap<String, String> rows = rowsOfCalls();
        for (String call : rows.keySet()) {
            String name = call.substring(0, call.indexOf('('));
            Check.due(name, due.getOrDefault(name, ""), rows.get(call));
        }
    }

    private static void refusalsAndExceptions() {
        Check.sentence("README.md tells each refusal and each exception");
        for (int refusal = -1; refusal >= -6; refusal--) {
            Check.due("rows of " + refusal, 1, linesThatBegin("| " + refusal + " | "));
        }
        Check.due("rows of -7", 0, linesThatBegin("| -7 | "));
        for (String name : new String[] {"IndexOutOfBounds", "IllegalArgument", "IllegalState"}) {
            Check.due("rows of " + name, 1, linesThatBegin("| `" + name + "Exception` | "));
        }
    }

    private static int linesThatBegin(String start) {
        int count = 0;
        for (String line : page) {
            if (line.startsWith(start)) {
                count++;
            }
        }
        return count;
    }

    private static void whatElseItSays() {
        Check.sentence("README.md says how to use the class, and how to run its tests");
        String all = String.join(" ", page);
        String[] words = {
            "`new RoomNumbers()` makes a house", "At most 512 calls after it has been made.",
            "`ADMIN` " + RoomNumbers.ADMIN, "`CHOWN` " + RoomNumbers.CHOWN,
            "`OVERRIDE` " + RoomNumbers.OVERRIDE, "`SETNUMBER` " + RoomNumbers.SETNUMBER,
            "`NOBODY`, " + RoomNumbers.NOBODY, "`NONE`, " + RoomNumbers.NONE,
            "A refusal is an answer", "An exception is thrown, not returned", ".ci/run",
        };
        for (String each : words) {
            Check.due(each, 1, all.contains(each) ? 1 : 0);
        }
    }

    private ReadmeTest() {
    }
}
