import java.util.ArrayList;
import java.util.List;

/** Two houses made alike: tells whether what one of them went through more has changed anything. */
final class Twins {
    interface House {
        RoomNumbers make();
    }

    interface Call {
        int on(RoomNumbers x);
    }

    private interface Probe {
        void tell(RoomNumbers x, StringBuilder told);
    }

    private static final int[] NUMBERS = {
        0, 1, 2, 3, 5, 9, 10, 11, 12, 20, 22, 50, 60, 99, 100, 105, 109, 110, 500, 998,
    };
    private static final List<Probe> PROBES = probes();

    private Twins() {
    }

    static void unchangedByException(String what, String exception, House house, Call call) {
        Check.due(what, exception, answer(house.make(), call));
        alike(what, house, after(house, call));
        sameRefusals(what, 0, 0, house, after(house, call));
    }

    static void unchangedByQuestion(String what, House house, Call call) {
        alike(what, house, after(house, call));
        sameRefusals(what, 0, 0, house, after(house, call));
    }

    static void unchangedByRefusal(String what, int refusal, House house, Call call) {
        Check.due(what, refusal, call.on(house.make()));
        alike(what, house, after(house, call));
        sameRefusals(what, 1, refusal, house, after(house, call));
    }

    private static String answer(RoomNumbers x, Call call) {
        return Check.answerOf(() -> call.on(x));
    }

    private static House after(House house, Call call) {
        return () -> {
            RoomNumbers x = house.make();
            answer(x, call);
            return x;
        };
    }

    /** Each probe has twins of its own, as it may change its house, and has 512 calls alone. */
    private static void alike(String what, House one, House other) {
        for (Probe probe : PROBES) {
            StringBuilder due = new StringBuilder();
            StringBuilder got = new StringBuilder();
            probe.tell(one.make(), due);
            probe.tell(other.make(), got);
            Check.due("what stands after " + what, due.toString(), got.toString());
        }
    }

    private static void sameRefusals(String what, int more, int latest, House one, House other) {
        RoomNumbers before = one.make();
        RoomNumbers then = other.make();
        Check.due("refusals after " + what, before.refusals() + more, then.refusals());
        Check.due("lastRefusal after " + what, more == 0 ? before.lastRefusal() : latest,
                then.lastRefusal());
    }

    private static List<Probe> probes() {
        List<Probe> probes = new ArrayList<>();
        probes.add(Twins::roomsAndMaps);
        probes.add(Twins::whoSeesWhom);
        probes.add(Twins::processes);
        probes.add(Twins::owners);
        probes.add(Twins::whatComesNext);
        for (int k = 0; k < 20; k += 5) {
            int first = k;
            probes.add((x, told) -> opens(x, first, told));
        }
        for (int k = 1; k < 10; k++) {
            int room = k;
            probes.add((x, told) -> draft(x, room, told));
        }
        return probes;
    }

    private static void add(StringBuilder told, Check.Call call) {
        told.append(Check.answerOf(call)).append(' ');
    }

    private static void roomsAndMaps(RoomNumbers x, StringBuilder told) {
        told.append("rooms ").append(x.rooms()).append(' ');
        for (int k = 0; k < x.rooms(); k++) {
            int room = k;
            add(told, () -> x.outerOf(room));
            for (int number : NUMBERS) {
                add(told, () -> x.leadsTo(room, number));
            }
        }
    }

    private static void whoSeesWhom(RoomNumbers x, StringBuilder told) {
        told.append("seen ");
        for (int k = 0; k < 10; k++) {
            int room = k;
            for (int number : NUMBERS) {
                add(told, () -> x.seenAs(room, number));
            }
        }
    }

    private static void processes(RoomNumbers x, StringBuilder told) {
        told.append("processes ").append(x.processes()).append(' ');
        for (int k = 0; k < 12; k++) {
            int process = k;
            add(told, () -> x.roomOf(process));
            add(told, () -> x.numberOf(process));
            add(told, () -> x.drop(process, 0));
            for (int r = 0; r < 10; r++) {
                int room = r;
                add(told, () -> x.rightsIn(process, room));
            }
        }
    }

    private static void owners(RoomNumbers x, StringBuilder told) {
        told.append("files ").append(x.files()).append(' ');
        for (int k = 0; k < 12; k++) {
            int process = k;
            for (int f = 0; f < 20; f++) {
                int file = f;
                add(told, () -> x.ownerSeenBy(process, file));
            }
        }
    }

    private static void opens(RoomNumbers x, int first, StringBuilder told) {
        told.append("open ");
        for (int k = 0; k < 12; k++) {
            int process = k;
            for (int f = first; f < first + 5; f++) {
                int file = f;
                add(told, () -> x.open(process, file, false));
                add(told, () -> x.open(process, file, true));
            }
        }
    }

    /** The lines of a draft are told by the map that is made of them. */
    private static void draft(RoomNumbers x, int room, StringBuilder told) {
        told.append("map ");
        add(told, () -> x.writeMap(0, room));
        for (int number : NUMBERS) {
            add(told, () -> x.leadsTo(room, number));
        }
    }

    private static void whatComesNext(RoomNumbers x, StringBuilder told) {
        told.append("next ");
        for (int k = 0; k < 4; k++) {
            add(told, () -> x.line(30, 30, 2));
        }
        add(told, () -> x.fork(0));
        add(told, () -> x.makeFile(0, 0));
        add(told, () -> x.makeRoom(0));
        add(told, () -> x.roomOf(0));
    }
}
