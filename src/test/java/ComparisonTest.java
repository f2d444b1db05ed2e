/** Long runs of mixed calls, each answered by TurnTops and by SlowKitchen, which must agree. */
public final class ComparisonTest {
    private static final int RUNS = 400;
    private static final int CALLS = 512;
    private static final int[] ODD = {Integer.MIN_VALUE, -1000001, -2, -1, 0, 1, 7, 8, 9, 10, 13, 22, 31, 32, 33,
        127, 120, 719, 720, 3839, 3840, 99999999, 100000000, 123456, 12345, Integer.MAX_VALUE};

    private static long seed;
    private static int wrong = 0;

    /** The numbers of a run come from its own number alone, so that each run can be repeated. */
    private static int pick(int many) {
        seed = seed * 6364136223846793005L + 1442695040888963407L;
        return (int) ((seed >>> 33) % many);
    }

    private static int between(int least, int most) {
        return pick(12) == 0 ? ODD[pick(ODD.length)] : least + pick(most - least + 1);
    }

    public static void main(String[] args) {
        for (int run = 0; run < RUNS && wrong < 20; run++) {
            seed = run;
            pick(2);
            compare(run);
        }
        System.out.println(wrong == 0 ? "all answers agree" : wrong + " answers do not agree");
        if (wrong != 0) {
            System.exit(1);
        }
    }

    private static void compare(int run) {
        TurnTops fast = new TurnTops();
        SlowKitchen slow = new SlowKitchen();
        for (int i = 0; i < CALLS && wrong < 20; i++) {
            int method = i < 6 ? 0 : pick(30);
            int[] a = arguments(method, slow);
            int got = call(fast, method, a);
            int due = call(slow, method, a);
            if (got != due) {
                wrong++;
                System.out.println("run " + run + ", call " + i + ": method " + method + " of " + a[0] + ", "
                    + a[1] + ", " + a[2] + " answered " + got + ", due is " + due);
            }
        }
        for (int what = 0; what <= 12; what++) {
            if (fast.count(what) != slow.count(what)) {
                wrong++;
                System.out.println("run " + run + ": count(" + what + ") differs at the end");
            }
        }
    }

    private static int[] arguments(int method, SlowKitchen slow) {
        int stack = between(0, 4);
        int n = Math.max(1, slow.stackOf(stack, 1));
        switch (method) {
            case 0:
                int kind = between(0, 3);
                int cakes = between(1, kind % 2 == 0 ? 6 : 5);
                return new int[] {kind, cakes, kind == 3 ? between(1, 21) : between(0, 0)};
            case 1: case 21: case 22:
                int rank = pick(3840);
                while (rank > 0 && slow.ranked(stack, rank, 0) < 0) {
                    rank /= 2;
                }
                return new int[] {stack, between(1, 1) == 1 ? slow.ranked(stack, rank, 0) : ODD[pick(ODD.length)],
                    between(1, 1) == 1 ? slow.ranked(stack, rank, 1) : ODD[pick(ODD.length)]};
            case 2: case 7: case 23: return new int[] {stack, between(1, n), 0};
            case 3: return new int[] {stack, row(n), 0};
            case 4: case 24: return new int[] {stack, between(0, 9), 0};
            case 5: return new int[] {stack, between(0, n - 1), 0};
            case 8: return new int[] {stack, between(0, 1), 0};
            case 10: return new int[] {stack, between(0, 5), 0};
            case 11: return new int[] {stack, between(0, 6), 0};
            case 12: return new int[] {stack, between(0, 2), 0};
            case 14: return new int[] {stack, between(0, pick(2) == 0 ? 10 : 4000), between(0, 1)};
            case 15: case 16: return new int[] {between(0, method == 15 ? 4 : 12), between(0, 12), 0};
            case 18: case 25: case 26: case 27: case 28: return new int[] {sign(), 0, 0};
            case 20: return new int[] {between(0, 1), 0, 0};
            default: return new int[] {stack, between(0, 9), 0};
        }
    }

    private static int row(int n) {
        int row = 0;
        for (int digits = 1 + pick(8); digits > 0; digits--) {
            row = row * 10 + 1 + pick(n);
        }
        return pick(8) == 0 ? ODD[pick(ODD.length)] : row;
    }

    private static String waiting = "";

    /** Most signs come from orders of the right form, so that some texts have no fault. */
    private static int sign() {
        if (pick(40) == 0) {
            return between(32, 126);
        }
        if (waiting.isEmpty()) {
            StringBuilder order = new StringBuilder().append((char) ('A' + pick(pick(6) + 1)));
            for (int digits = 1 + pick(3); digits > 0; digits--) {
                order.append((char) ('1' + pick(3)));
            }
            waiting = order.append(';').toString();
        }
        int sign = waiting.charAt(0);
        waiting = waiting.substring(1);
        return sign;
    }

    private static int call(TurnTops x, int method, int[] a) {
        switch (method) {
            case 0: return x.stack(a[0], a[1], a[2]);
            case 1: case 21: case 22: return x.lay(a[0], a[1], a[2]);
            case 2: case 23: return x.turn(a[0], a[1]);
            case 3: return x.doRow(a[0], a[1]);
            case 4: case 24: return x.stackOf(a[0], a[1]);
            case 5: return x.cakeAt(a[0], a[1]);
            case 7: return x.gapsBehind(a[0], a[1]);
            case 8: return x.fewest(a[0], a[1]);
            case 9: return x.leastWork(a[0]);
            case 10: return x.ways(a[0], a[1]);
            case 11: return x.lookedAt(a[0], a[1]);
            case 12: return x.simple(a[0], a[1]);
            case 13: return x.bestTurn(a[0]);
            case 14: return x.ranked(a[0], a[1], a[2]);
            case 15: return x.ofDistance(a[0], a[1]);
            case 16: return x.count(a[0]);
            case 17: return x.undo();
            case 18: case 25: case 26: case 27: case 28: return x.type(a[0]);
            case 19: return x.play() + 100 * (pickless(a) ? x.clearText() : 0);
            case 20: return x.fault(a[0]);
            default: return x.play();
        }
    }

    private static int call(SlowKitchen x, int method, int[] a) {
        switch (method) {
            case 0: return x.stack(a[0], a[1], a[2]);
            case 1: case 21: case 22: return x.lay(a[0], a[1], a[2]);
            case 2: case 23: return x.turn(a[0], a[1]);
            case 3: return x.doRow(a[0], a[1]);
            case 4: case 24: return x.stackOf(a[0], a[1]);
            case 5: return x.cakeAt(a[0], a[1]);
            case 7: return x.gapsBehind(a[0], a[1]);
            case 8: return x.fewest(a[0], a[1]);
            case 9: return x.leastWork(a[0]);
            case 10: return x.ways(a[0], a[1]);
            case 11: return x.lookedAt(a[0], a[1]);
            case 12: return x.simple(a[0], a[1]);
            case 13: return x.bestTurn(a[0]);
            case 14: return x.ranked(a[0], a[1], a[2]);
            case 15: return x.ofDistance(a[0], a[1]);
            case 16: return x.count(a[0]);
            case 17: return x.undo();
            case 18: case 25: case 26: case 27: case 28: return x.type(a[0]);
            case 19: return x.play() + 100 * (pickless(a) ? x.clearText() : 0);
            case 20: return x.fault(a[0]);
            default: return x.play();
        }
    }

    /** Whether a play is followed by an empty text. */
    private static boolean pickless(int[] a) {
        return a[1] % 2 == 0;
    }
}
