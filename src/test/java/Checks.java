import java.util.function.Supplier;

/** What the tests share: answers compared with those that are due, small kitchens, and all that is seen of one. */
abstract class Checks {
    static final int PLAIN = 0;
    static final int BURNT = 1;
    static final int GLUED = 2;
    static final int WEAK = 3;

    static final int INVALID = TurnTops.INVALID_ARGUMENT;
    static final int IMPOSSIBLE = TurnTops.NOT_POSSIBLE;
    static final int LIMIT = TurnTops.LIMIT_REACHED;
    static final int NOT_FOUND = TurnTops.NOT_FOUND;

    /** Numbers that are stacks, places, turns or things to ask for in no state. */
    static final int[] NEVER = {Integer.MIN_VALUE, -1000001, -2, -1, 51, 1000, Integer.MAX_VALUE};

    private static String part = "";
    private static int answersOfPart = 1;
    private static int parts = 0;
    private static int wrong = 0;

    /** A call that is made with one number in several kitchens. */
    interface Call {
        int of(TurnTops x, int number);
    }

    /** Names the part of the document that the next answers are for. */
    static void about(String next) {
        if (answersOfPart == 0) {
            wrong++;
            System.out.println(part + ": nothing was asked for it");
        }
        part = next;
        parts++;
        answersOfPart = 0;
    }

    /** Names the sentence of the document that the next answers are for; ".." is for words left out. */
    static void sentence(String where, String words) {
        about(where + ", \"" + words + "\"");
    }

    /** Names the sentence, and which case of it the next answers are for. */
    static void sentence(String where, String words, String which) {
        about(where + ", \"" + words + "\" (" + which + ")");
    }

    static void is(String what, int got, int due) {
        answersOfPart++;
        if (got != due) {
            wrong++;
            System.out.println(part + ": " + what + " answered " + got + ", due is " + due);
        }
    }

    static void isTrue(String what, boolean holds) {
        is(what, holds ? 1 : 0, 1);
    }

    /** To be called last: exit code 1 tells that an answer was not as due. */
    static void end() {
        about("the end");
        System.out.println(parts - 1 + " parts, " + (wrong == 0 ? "all as due" : wrong + " answers are not as due"));
        if (wrong != 0) {
            System.exit(1);
        }
    }

    static TurnTops kitchen(int kind, int cakes, int strength) {
        TurnTops x = new TurnTops();
        is("stack", x.stack(kind, cakes, strength), 0);
        return x;
    }

    static TurnTops laid(int kind, int cakes, int strength, int code, int sides) {
        TurnTops x = kitchen(kind, cakes, strength);
        x.lay(0, code, sides);
        is("the code that was laid", x.stackOf(0, 3), code);
        is("the sides that were laid", x.stackOf(0, 4), sides);
        return x;
    }

    static TurnTops kitchenWith(int stacks) {
        TurnTops x = new TurnTops();
        for (int i = 0; i < stacks; i++) {
            is("stack", x.stack(BURNT, 3, 0), i);
        }
        return x;
    }

    static void write(TurnTops x, String text) {
        for (int i = 0; i < text.length(); i++) {
            x.type(text.charAt(i));
        }
    }

    /** How a stack lies. */
    static void lies(TurnTops x, int stack, int code, int sides) {
        is("code", x.stackOf(stack, 3), code);
        is("sides", x.stackOf(stack, 4), sides);
    }

    /** The numbers of the hands as decimal digits, that of hand 0 first. */
    static int turnsOfHands(TurnTops x) {
        return x.count(4) * 100 + x.count(5) * 10 + x.count(6);
    }

    static int workOfHands(TurnTops x) {
        return x.count(7) * 100 + x.count(8) * 10 + x.count(9);
    }

    /** The ends of a range are no fault of an argument, what is just outside of it or far away is. */
    static void range(Supplier<TurnTops> kitchens, int least, int most, Call call) {
        isTrue("least, " + least, call.of(kitchens.get(), least) != INVALID);
        isTrue("greatest, " + most, call.of(kitchens.get(), most) != INVALID);
        is("below, " + (least - 1), call.of(kitchens.get(), least - 1), INVALID);
        is("above, " + (most + 1), call.of(kitchens.get(), most + 1), INVALID);
        for (int never : NEVER) {
            if (never < least || never > most) {
                is("far outside, " + never, call.of(kitchens.get(), never), INVALID);
            }
        }
    }

    /** Just the stacks that there are can be asked for: none of no stacks, the last one of 2 and of 5. */
    static void stackNumbers(String promise, Call call) {
        sentence(promise, "stack: number of the stack");
        is("stack 0 of none", call.of(new TurnTops(), 0), INVALID);
        range(() -> kitchenWith(1), 0, 0, call);
        range(() -> kitchenWith(2), 0, 1, call);
        range(() -> kitchenWith(5), 0, 4, call);
        TurnTops undone = kitchenWith(2);
        undone.undo();
        is("a stack that undo took away", call.of(undone, 1), INVALID);
        isTrue("the one before it", call.of(undone, 0) != INVALID);
    }

    /** All that can be seen of a kitchen without changing it, by 65 calls. */
    static int[] seen(TurnTops x) {
        int[] seen = new int[65];
        int next = 0;
        for (int what = 0; what <= 12; what++) {
            seen[next++] = x.count(what);
        }
        for (int what = 0; what <= 1; what++) {
            seen[next++] = x.fault(what);
        }
        for (int stack = 0; stack < 5; stack++) {
            for (int what = 0; what <= 9; what++) {
                seen[next++] = x.stackOf(stack, what);
            }
        }
        return seen;
    }

    static void same(String what, int[] got, int[] due) {
        is(what + ", how much is seen", got.length, due.length);
        for (int i = 0; i < got.length && i < due.length; i++) {
            is(what + ", number " + i + " of what is seen", got[i], due[i]);
        }
    }
}
