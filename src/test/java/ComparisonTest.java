import java.lang.reflect.Method;
import java.util.Arrays;

/** Long runs of mixed calls, each answered by TurnTops and by SlowKitchen, which must agree. */
public final class ComparisonTest {
    private static final int RUNS = 400;
    private static final int CALLS = 512;
    private static final int MOST_TOLD = 20;

    /** The calls, as often as they shall come. */
    private static final String[] CALL_NAMES = {"stack", "lay", "lay", "lay", "turn", "turn", "doRow", "stackOf",
        "stackOf", "cakeAt", "gapsBehind", "fewest", "leastWork", "ways", "lookedAt", "simple", "bestTurn", "ranked",
        "ofDistance", "count", "undo", "type", "type", "type", "type", "type", "clearText", "fault", "play", "play"};

    private static final int[] ODD = {Integer.MIN_VALUE, -1000001, -2, -1, 0, 1, 5, 6, 7, 8, 9, 10, 13, 21, 22, 31,
        32, 33, 51, 127, 120, 719, 720, 3839, 3840, 99999999, 100000000, 123456, 12345, Integer.MAX_VALUE};

    private static long seed;
    private static String waiting;
    private static int wrong = 0;

    public static void main(String[] args) throws ReflectiveOperationException {
        for (int run = 0; run < RUNS && wrong < MOST_TOLD; run++) {
            seed = run;
            waiting = "";
            compare(run);
        }
        System.out.println(wrong == 0 ? "all answers agree" : wrong + " answers do not agree");
        if (wrong != 0) {
            System.exit(1);
        }
    }

    private static void compare(int run) throws ReflectiveOperationException {
        TurnTops fast = new TurnTops();
        SlowKitchen slow = new SlowKitchen();
        int called = 0;
        for (; called < CALLS - 13 && wrong < MOST_TOLD; called++) {
            // some runs begin with many stacks, some with few
            String name = called < run % 7 ? "stack" : CALL_NAMES[pick(CALL_NAMES.length)];
            compareCall(run, fast, slow, name, argumentsOf(name, slow));
        }
        for (int what = 0; what <= 12; what++) {
            compareCall(run, fast, slow, "count", what);
        }
    }

    private static void compareCall(int run, TurnTops fast, SlowKitchen slow, String name, int... arguments)
            throws ReflectiveOperationException {
        int got = answer(fast, name, arguments);
        int due = answer(slow, name, arguments);
        if (got != due) {
            wrong++;
            System.out.println("run " + run + ": " + name + Arrays.toString(arguments) + " answered " + got
                + ", due is " + due);
        }
    }

    private static int answer(Object kitchen, String name, int[] arguments) throws ReflectiveOperationException {
        Class<?>[] types = new Class<?>[arguments.length];
        Arrays.fill(types, int.class);
        Method method = kitchen.getClass().getDeclaredMethod(name, types);
        return (Integer) method.invoke(kitchen, Arrays.stream(arguments).boxed().toArray());
    }

    private static int[] argumentsOf(String name, SlowKitchen slow) {
        int stack = between(0, Math.max(0, slow.count(0) - 1));
        int cakes = Math.max(1, slow.stackOf(stack, 1));
        switch (name) {
            case "stack": return newStack();
            case "lay": return layout(stack, slow);
            case "turn": case "gapsBehind": return new int[] {stack, between(1, cakes)};
            case "doRow": return new int[] {stack, row(cakes)};
            case "stackOf": return new int[] {stack, between(0, 9)};
            case "cakeAt": return new int[] {stack, between(0, cakes - 1)};
            case "fewest": return new int[] {stack, between(0, 1)};
            case "ways": return new int[] {stack, between(0, 5)};
            case "lookedAt": return new int[] {stack, between(0, 6)};
            case "simple": return new int[] {stack, between(0, 2)};
            case "ranked": return new int[] {stack, between(0, pick(2) == 0 ? 10 : 4000), between(0, 1)};
            case "ofDistance": return new int[] {stack, between(0, 12)};
            case "count": return new int[] {between(0, 12)};
            case "type": return new int[] {sign()};
            case "fault": return new int[] {between(0, 1)};
            case "leastWork": case "bestTurn": return new int[] {stack};
            default: return new int[0];
        }
    }

    private static int[] newStack() {
        int kind = between(0, 3);
        boolean sided = kind == 1 || kind == 3;
        return new int[] {kind, between(1, sided ? 5 : 6), kind == 3 ? between(1, 21) : between(0, 0)};
    }

    private static int[] layout(int stack, SlowKitchen slow) {
        int rank = pick(3840);
        while (rank > 0 && slow.ranked(stack, rank, 0) < 0) {
            rank /= 2;
        }
        int code = slow.ranked(stack, rank, 0);
        int sides = slow.ranked(stack, rank, 1);
        return new int[] {stack, between(code, code), between(sides, sides)};
    }

    private static int row(int cakes) {
        int row = 0;
        for (int digits = 1 + pick(8); digits > 0; digits--) {
            row = row * 10 + 1 + pick(cakes);
        }
        return between(row, row);
    }

    /** Most signs come from orders of the right form, so that some texts have no fault. */
    private static int sign() {
        if (pick(40) == 0) {
            return between(32, 126);
        }
        if (waiting.isEmpty()) {
            StringBuilder order = new StringBuilder().append((char) ('A' + pick(1 + pick(6))));
            for (int digits = 1 + pick(3); digits > 0; digits--) {
                order.append((char) ('1' + pick(3)));
            }
            waiting = order.append(';').toString();
        }
        int sign = waiting.charAt(0);
        waiting = waiting.substring(1);
        return sign;
    }

    private static int between(int least, int most) {
        return pick(12) == 0 ? ODD[pick(ODD.length)] : least + pick(most - least + 1);
    }

    /** The numbers of a run come from its own number alone, so that each run can be repeated. */
    private static int pick(int many) {
        seed = seed * 6364136223846793005L + 1442695040888963407L;
        return (int) ((seed >>> 33) % many);
    }
}
