import java.util.Arrays;

/** Long runs of calls, the same ones each time, each compared with the model's answer. */
public final class ModelTest {
    private static final int RUNS = 6000;
    private static final int CALLS = 512;
    private static final String[] NAMES = {
        "makeRoom", "line", "writeMap", "rooms", "outerOf", "leadsTo", "seenAs", "seenByLeading",
        "fork", "drop", "enter", "setNumber", "processes", "roomOf", "numberOf", "rightsIn",
        "makeFile", "handOver", "open", "ownerSeenBy", "files", "refusals", "lastRefusal",
    };
    /** How often each call is drawn. */
    private static final int[] WEIGHTS = {
        3, 14, 10, 1, 1, 6, 6, 3,
        4, 2, 6, 10, 1, 1, 3, 8,
        4, 6, 10, 4, 1, 1, 2,
    };
    private static final int[] EDGES = {
        -1, 0, 1, 9, 10, 11, 12, 15, 16, 19, 20, 998, 999, 1000,
        Integer.MIN_VALUE, Integer.MAX_VALUE,
    };

    private static long state = 20261119L;
    private static final int[][] answered = new int[NAMES.length][12];

    public static void main(String[] args) {
        for (int run = 0; run < RUNS; run++) {
            compareRun(run, CALLS);
        }
        everyAnswerCame();
        Check.end();
    }

    private static void compareRun(int run, int calls) {
        RoomNumbers x = new RoomNumbers();
        Model model = new Model();
        StringBuilder told = new StringBuilder();
        for (int n = 0; n < calls; n++) {
            int which = drawnCall();
            int[] p = arguments(which, run % 3, model);
            String want = Check.answerOf(() -> model.call(which, p[0], p[1], p[2]));
            String got = Check.answerOf(() -> call(x, which, p[0], p[1], p[2]));
            String what = NAMES[which] + Arrays.toString(p);
            Check.due("run " + run + " call " + n + " " + what, want, got);
            count(which, got);
            told.append(what).append(' ').append(want).append('\n');
            if (!want.equals(got)) {
                System.out.println(told);
                Check.end();
            }
        }
    }

    private static int call(RoomNumbers x, int which, int a, int b, int c) {
        switch (which) {
            case 0: return x.makeRoom(a);
            case 1: return x.line(a, b, c);
            case 2: return x.writeMap(a, b);
            case 3: return x.rooms();
            case 4: return x.outerOf(a);
            case 5: return x.leadsTo(a, b);
            case 6: return x.seenAs(a, b);
            case 7: return x.seenByLeading(a, b);
            case 8: return x.fork(a);
            case 9: return x.drop(a, b);
            case 10: return x.enter(a, b);
            case 11: return x.setNumber(a, b);
            case 12: return x.processes();
            case 13: return x.roomOf(a);
            case 14: return x.numberOf(a);
            case 15: return x.rightsIn(a, b);
            case 16: return x.makeFile(a, b);
            case 17: return x.handOver(a, b, c);
            case 18: return x.open(a, b, c != 0);
            case 19: return x.ownerSeenBy(a, b);
            case 20: return x.files();
            case 21: return x.refusals();
            default: return x.lastRefusal();
        }
    }

    /** Drawn by the model's counts, as asking the house would be more than its 512 calls. */
    private static int[] arguments(int which, int kind, Model model) {
        int process = draw(model.processes());
        int room = draw(model.rooms());
        int file = draw(Math.max(1, model.files()));
        int[] p = {process, 0, 0};
        switch (which) {
            case 1: p = drawnLine(kind); break;
            case 2: p[1] = draw(2) == 0 ? model.rooms() - 1 : room; break;
            case 4: p[0] = room; break;
            case 5: case 6: case 7: p = new int[] {room, drawnNumber(kind), 0}; break;
            case 9: p[1] = draw(3) == 0 ? draw(16) : 1 << draw(4); break;
            case 10: case 15: p[1] = room; break;
            case 11: p[1] = drawnNumber(kind); break;
            case 16: p[1] = draw(16); break;
            case 17: p = new int[] {process, file, drawnNumber(kind)}; break;
            case 18: p = new int[] {process, file, draw(2)}; break;
            case 19: p[1] = file; break;
            default: break;
        }
        if (draw(25) == 0) {
            p[draw(3)] = EDGES[draw(EDGES.length)];
        }
        return p;
    }

    /** Few numbers, so that they meet often; or lines as long as they may be; or any. */
    private static int[] drawnLine(int kind) {
        if (kind == 0) {
            return new int[] {draw(8), draw(8), 1 + draw(3)};
        }
        if (kind == 1) {
            return draw(2) == 0 ? new int[] {0, 0, 500 + draw(500)}
                    : new int[] {draw(12), draw(12), 1 + draw(12)};
        }
        return new int[] {draw(999), draw(999), 1 + draw(400)};
    }

    private static int drawnNumber(int kind) {
        if (draw(4) == 0) {
            return 0;
        }
        return kind == 2 ? draw(999) : draw(12);
    }

    private static int drawnCall() {
        int sum = 0;
        for (int weight : WEIGHTS) {
            sum += weight;
        }
        int left = draw(sum);
        for (int which = 0; which < WEIGHTS.length; which++) {
            left -= WEIGHTS[which];
            if (left < 0) {
                return which;
            }
        }
        return 0;
    }

    private static int draw(int below) {
        state = state * 6364136223846793005L + 1442695040888963407L;
        return (int) ((state >>> 33) % below);
    }

    private static void count(int which, String got) {
        switch (got) {
            case "IndexOutOfBoundsException": answered[which][7]++; break;
            case "IllegalArgumentException": answered[which][8]++; break;
            case "IllegalStateException": answered[which][9]++; break;
            default:
                int answer = Integer.parseInt(got);
                answered[which][answer < 0 ? -answer : answer == 999 ? 10 : 0]++;
        }
    }

    /** The runs are worth little if some refusal or exception never comes up in them. */
    private static void everyAnswerCame() {
        int[][] due = {
            {0, 7, 9}, {0, 8, 9}, {0, 1, 2, 3, 4, 7}, {0}, {0, 1, 7}, {0, 1, 7, 8},
            {0, 10, 7, 8}, {0, 10, 7, 8}, {0, 7, 9}, {0, 7, 8}, {0, 1, 5, 7}, {0, 1, 2, 7, 8},
            {0}, {0, 7}, {0, 7}, {0, 7}, {0, 2, 7, 8, 9}, {0, 1, 2, 7, 8}, {0, 2, 6, 7},
            {0, 10, 7}, {0}, {0}, {0, 1, 2, 3, 4, 5, 6},
        };
        for (int which = 0; which < due.length; which++) {
            for (int kind : due[which]) {
                Check.due(NAMES[which] + " answers of the kind " + kind + " came", 1,
                        answered[which][kind] > 0 ? 1 : 0);
            }
        }
    }

    private ModelTest() {
    }
}
