/**
 * The document told once more, for the tests: with a whole table for each room instead of lines,
 * so that a slip in the program is unlikely to stand here too.
 */
final class Model {
    private static final int NUMBERS = 999;

    private int rooms = 1;
    private final int[] outer = new int[10];
    private final int[] roomOwner = new int[10];
    private final boolean[] mapped = new boolean[10];
    /** Where each number of a room leads, and as what each outermost number is seen from it. */
    private final int[][] leads = new int[10][NUMBERS];
    private final int[][] seen = new int[10][NUMBERS];
    /** A room to the outermost number of each of its numbers in the room outside, or -1. */
    private final int[][] step = new int[10][NUMBERS];
    private final boolean[][] inside = new boolean[10][10];

    private int draftLines = 0;
    private final int[][] draft = new int[3][];

    private int processes = 1;
    private final int[] at = new int[12];
    private final int[] number = new int[12];
    private final int[] rights = new int[12];

    private int files = 0;
    private final int[] fileOwner = new int[20];
    private final int[] mode = new int[20];

    private int refusals = 0;
    private int lastRefusal = 0;

    Model() {
        outer[0] = -1;
        roomOwner[0] = -1;
        rights[0] = 15;
        for (int n = 0; n < NUMBERS; n++) {
            leads[0][n] = n;
            seen[0][n] = n;
        }
    }

    int rooms() {
        return rooms;
    }

    int processes() {
        return processes;
    }

    int files() {
        return files;
    }

    /** A call by its place in the document's face. */
    int call(int which, int a, int b, int c) {
        switch (which) {
            case 0: return makeRoom(a);
            case 1: return line(a, b, c);
            case 2: return writeMap(a, b);
            case 3: return rooms;
            case 4: room(a); return outer[a];
            case 5: room(a); range(b, 0, 998); return leads[a][b];
            case 6: case 7: room(a); range(b, 0, 998); return seen[a][b];
            case 8: return fork(a);
            case 9: process(a); range(b, 0, 15); rights[a] -= rights[a] & b; return rights[a];
            case 10: return enter(a, b);
            case 11: return setNumber(a, b);
            case 12: return processes;
            case 13: process(a); return at[a];
            case 14: process(a); return number[a];
            case 15: process(a); room(b); return held(a, b);
            case 16: return makeFile(a, b);
            case 17: return handOver(a, b, c);
            case 18: return open(a, b, c != 0);
            case 19: process(a); file(b); return seen[at[a]][fileOwner[b]];
            case 20: return files;
            case 21: return refusals;
            default: return lastRefusal;
        }
    }

    private void process(int p) {
        if (p < 0 || p >= processes) {
            throw new IndexOutOfBoundsException();
        }
    }

    private void room(int r) {
        if (r < 0 || r >= rooms) {
            throw new IndexOutOfBoundsException();
        }
    }

    private void file(int f) {
        if (f < 0 || f >= files) {
            throw new IndexOutOfBoundsException();
        }
    }

    private void range(int n, int least, int most) {
        if (n < least || n > most) {
            throw new IllegalArgumentException();
        }
    }

    private int refused(int refusal) {
        refusals++;
        lastRefusal = refusal;
        return refusal;
    }

    private int makeRoom(int p) {
        process(p);
        if (rooms == 10) {
            throw new IllegalStateException();
        }
        int made = rooms++;
        outer[made] = at[p];
        roomOwner[made] = number[p];
        for (int r = 0; r < 10; r++) {
            inside[made][r] = r == at[p] || inside[at[p]][r];
        }
        for (int n = 0; n < NUMBERS; n++) {
            step[made][n] = -1;
            leads[made][n] = -1;
            seen[made][n] = 999;
        }
        at[p] = made;
        rights[p] = 15;
        return made;
    }

    private int line(int first, int outside, int length) {
        range(first, 0, 998);
        range(outside, 0, 998);
        range(length, 1, 999);
        range(Math.max(first, outside) + length, 1, 999);
        if (draftLines == 3) {
            throw new IllegalStateException();
        }
        draft[draftLines++] = new int[] {first, outside, length};
        return draftLines;
    }

    private int writeMap(int p, int r) {
        process(p);
        room(r);
        if (r == 0) {
            throw new IndexOutOfBoundsException();
        }
        int lines = draftLines;
        draftLines = 0;
        if (mapped[r]) {
            return refused(-4);
        }
        int[] to = new int[NUMBERS];
        java.util.Arrays.fill(to, -1);
        boolean[] taken = new boolean[NUMBERS];
        boolean overlaps = lines == 0;
        boolean nowhere = false;
        for (int l = 0; l < lines; l++) {
            for (int k = 0; k < draft[l][2]; k++) {
                int inner = draft[l][0] + k;
                int outside = draft[l][1] + k;
                overlaps |= to[inner] != -1 || taken[outside];
                nowhere |= leads[outer[r]][outside] == -1;
                to[inner] = outside;
                taken[outside] = true;
            }
        }
        if (overlaps) {
            return refused(-3);
        }
        if (nowhere) {
            return refused(-2);
        }
        boolean single = lines == 1 && draft[0][2] == 1
                && leads[outer[r]][draft[0][1]] == number[p] && number[p] == roomOwner[r];
        if ((held(p, outer[r]) & 8) == 0 && !single) {
            return refused(-1);
        }
        mapped[r] = true;
        step[r] = to;
        fillTables();
        return lines;
    }

    /** A room can get its map only after those outside it have theirs, but all are made anew. */
    private void fillTables() {
        for (int r = 1; r < rooms; r++) {
            java.util.Arrays.fill(seen[r], 999);
            for (int n = 0; n < NUMBERS; n++) {
                leads[r][n] = step[r][n] == -1 ? -1 : leads[outer[r]][step[r][n]];
                if (leads[r][n] != -1) {
                    seen[r][leads[r][n]] = n;
                }
            }
        }
    }

    private int fork(int p) {
        process(p);
        if (processes == 12) {
            throw new IllegalStateException();
        }
        at[processes] = at[p];
        number[processes] = number[p];
        rights[processes] = rights[p];
        return processes++;
    }

    private int held(int p, int r) {
        for (int owned = 1; owned < rooms; owned++) {
            if (roomOwner[owned] == number[p] && outer[owned] == at[p]
                    && (r == owned || inside[r][owned])) {
                return 15;
            }
        }
        return r == at[p] || inside[r][at[p]] ? rights[p] : 0;
    }

    private int enter(int p, int r) {
        process(p);
        room(r);
        if (!inside[r][at[p]]) {
            return refused(-5);
        }
        if ((held(p, r) & 1) == 0) {
            return refused(-1);
        }
        at[p] = r;
        rights[p] = 15;
        return 15;
    }

    private int setNumber(int p, int n) {
        process(p);
        range(n, 0, 998);
        int to = leads[at[p]][n];
        if (to == -1) {
            return refused(-2);
        }
        if (to != number[p]) {
            if ((rights[p] & 8) == 0) {
                return refused(-1);
            }
            if (seen[at[p]][number[p]] == 0) {
                rights[p] = 0;
            }
            number[p] = to;
        }
        return to;
    }

    private int makeFile(int p, int m) {
        process(p);
        range(m, 0, 15);
        if (files == 20) {
            throw new IllegalStateException();
        }
        if (seen[at[p]][number[p]] == 999) {
            return refused(-2);
        }
        fileOwner[files] = number[p];
        mode[files] = m;
        return files++;
    }

    private int handOver(int p, int f, int n) {
        process(p);
        file(f);
        range(n, 0, 998);
        if (leads[at[p]][n] == -1 || seen[at[p]][fileOwner[f]] == 999) {
            return refused(-2);
        }
        if ((rights[p] & 2) == 0) {
            return refused(-1);
        }
        fileOwner[f] = leads[at[p]][n];
        return fileOwner[f];
    }

    private int open(int p, int f, boolean writes) {
        process(p);
        file(f);
        boolean owns = number[p] == fileOwner[f];
        int bit = owns ? (writes ? 2 : 1) : (writes ? 8 : 4);
        if ((mode[f] & bit) != 0) {
            return 1;
        }
        if ((rights[p] & 4) == 0) {
            return refused(-6);
        }
        return seen[at[p]][fileOwner[f]] == 999 ? refused(-2) : 2;
    }
}
