/** Calls with numbers that are just out of range, or far out of it. */
final class Edges {
    interface Of {
        int at(int number);
    }

    private Edges() {
    }

    /** The house has those from 0 to the last one. */
    static void noSuch(String what, int last, Of call) {
        for (int number : outside(0, last)) {
            Check.noSuch(what + " of " + number, () -> call.at(number));
        }
    }

    static void outOfRange(String what, int least, int most, Of call) {
        for (int number : outside(least, most)) {
            Check.outOfRange(what + " of " + number, () -> call.at(number));
        }
    }

    /** Among them those at which a row of 10, 12 or 20 ends, and those that wrap around. */
    private static int[] outside(int least, int most) {
        int[] numbers = new int[30];
        for (int k = 0; k < 24; k++) {
            numbers[k] = most + 1 + k;
        }
        numbers[24] = least - 1;
        numbers[25] = least - 2;
        numbers[26] = Integer.MAX_VALUE;
        numbers[27] = Integer.MIN_VALUE;
        numbers[28] = Integer.MAX_VALUE - most;
        numbers[29] = Integer.MIN_VALUE + most + 1;
        return numbers;
    }
}
