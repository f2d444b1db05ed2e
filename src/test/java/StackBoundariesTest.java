/**
 * Each sentence on stacks and turns that names a boundary case, by a test of its own: of the terms "Stacks" and
 * "Codes", and of the promises 1 to 8.
 */
public final class StackBoundariesTest extends Checks {
    private static final int[] KINDS = {PLAIN, BURNT, GLUED, WEAK};

    public static void main(String[] args) {
        termsOfStacks();
        termsOfTurns();
        termsOfGaps();
        termsOfPossibleTurns();
        termsOfCodes();
        newObject();
        stack();
        lay();
        turn();
        doRow();
        stackOf();
        cakeAt();
        gapsBehind();
        end();
    }

    private static boolean isSided(int kind) {
        return kind == BURNT || kind == WEAK;
    }

    private static int mostCakes(int kind) {
        return isSided(kind) ? 5 : 6;
    }

    /** The strength of a stack that bears all, 0 for the kinds that have none. */
    private static int strong(int kind) {
        return kind == WEAK ? 21 : 0;
    }

    /** All cakes, the greatest on the top. */
    private static int reverse(int cakes) {
        return 654321 % (int) Math.pow(10, cakes);
    }

    // ---- the term "Stacks"

    private static void termsOfStacks() {
        kindsAndCakes();
        strengths();
        fiveStacks();
        placesFromTheTop();
        sidesOfPlainAndGlued();
        sortedSizes();
        sortedSides();
    }

    private static void kindsAndCakes() {
        sentence("Stacks", "A stack has a kind .., n cakes of the sizes 1 to n", "all in one kitchen");
        TurnTops x = new TurnTops();
        for (int cakes = 1; cakes <= 6; cakes++) {
            for (int kind : KINDS) {
                if (cakes <= mostCakes(kind)) {
                    is("stack", x.stack(kind, cakes, strong(kind)), 0);
                    is("kind", x.stackOf(0, 0), kind);
                    is("cakes", x.stackOf(0, 1), cakes);
                    is("sizes", x.stackOf(0, 3), 123456 / (int) Math.pow(10, 6 - cakes));
                    isTrue("sides", (x.lay(0, x.stackOf(0, 3), 1) != INVALID) == isSided(kind));
                    x.undo();
                    x.undo();
                }
            }
        }
    }

    private static void strengths() {
        sentence("Stacks", "and, if it is weak, a strength", "all in one kitchen");
        TurnTops x = new TurnTops();
        for (int cakes = 1; cakes <= 5; cakes++) {
            for (int strength = 1; strength <= 21; strength++) {
                is("stack", x.stack(WEAK, cakes, strength), 0);
                is("strength", x.stackOf(0, 2), strength);
                is("cakes", x.stackOf(0, 1), cakes);
                x.undo();
            }
        }
    }

    private static void fiveStacks() {
        sentence("Stacks", "There are at most 5 stacks, numbered from 0.");
        TurnTops x = kitchenWith(4);
        is("stack 4 of four", x.turn(4, 1), INVALID);
        is("the fifth", x.stack(BURNT, 1, 0), 4);
        is("stack 4 of five", x.turn(4, 1), 1);
        is("stack 0 of five", x.turn(0, 1), 1);
        is("the sixth", x.stack(BURNT, 1, 0), LIMIT);
        is("stack 5", x.turn(5, 1), INVALID);
    }

    private static void placesFromTheTop() {
        sentence("Stacks", "The places are numbered from the top, 0 to n - 1.");
        TurnTops x = laid(BURNT, 5, 0, 34512, 1 + 16);
        is("0, the top", x.cakeAt(0, 0), 3 - 10);
        is("1", x.cakeAt(0, 1), 4);
        is("4, the bottom", x.cakeAt(0, 4), 2 - 10);
    }

    private static void sidesOfPlainAndGlued() {
        sentence("Stacks", "in plain and glued ones sides do not matter, all show the good side");
        for (int kind : new int[] {PLAIN, GLUED}) {
            TurnTops x = laid(kind, 3, 0, 312, 0);
            x.turn(0, 3);
            lies(x, 0, 213, 0);
            is("top", x.cakeAt(0, 0), 2);
            is("bottom", x.cakeAt(0, 2), 3);
        }
    }

    private static void sortedSizes() {
        sentence("Stacks", "A stack is sorted if its sizes rise from the top to the bottom");
        is("all rise", laid(PLAIN, 6, 0, 123456, 0).stackOf(0, 6), 1);
        is("all but the first pair", laid(PLAIN, 6, 0, 213456, 0).stackOf(0, 6), 0);
        is("all but the last pair", laid(PLAIN, 6, 0, 123465, 0).stackOf(0, 6), 0);
        is("none", laid(GLUED, 6, 0, 654321, 0).stackOf(0, 6), 0);
        is("one cake", kitchen(GLUED, 1, 0).stackOf(0, 6), 1);
    }

    private static void sortedSides() {
        sentence("Stacks", "and all show the good side");
        for (int kind : new int[] {BURNT, WEAK}) {
            is("all good", laid(kind, 5, strong(kind), 12345, 0).stackOf(0, 6), 1);
            is("all but the top", laid(kind, 5, strong(kind), 12345, 1).stackOf(0, 6), 0);
            is("all but the bottom", laid(kind, 5, strong(kind), 12345, 16).stackOf(0, 6), 0);
            is("none", laid(kind, 5, strong(kind), 12345, 31).stackOf(0, 6), 0);
            is("one burnt cake", laid(kind, 1, strong(kind), 1, 1).stackOf(0, 6), 0);
        }
    }

    private static void termsOfTurns() {
        turnOfOne();
        turnOfAll();
        turnOfAllButTheBottom();
    }

    private static void turnOfOne() {
        sentence("Stacks", "To turn the top k cakes (1 to n)", "the turn of 1");
        TurnTops plain = laid(PLAIN, 3, 0, 312, 0);
        is("plain", plain.turn(0, 1), 2);
        lies(plain, 0, 312, 0);
        TurnTops burnt = laid(BURNT, 3, 0, 312, 4);
        is("burnt", burnt.turn(0, 1), 3);
        lies(burnt, 0, 312, 5);
        burnt.turn(0, 1);
        lies(burnt, 0, 312, 4);
    }

    private static void turnOfAll() {
        sentence("Stacks", "To turn the top k cakes (1 to n)", "the turn of n");
        TurnTops plain = laid(PLAIN, 6, 0, 246135, 0);
        plain.turn(0, 6);
        lies(plain, 0, 531642, 0);
        TurnTops burnt = laid(BURNT, 5, 0, 24135, 3);
        burnt.turn(0, 5);
        // 2 and 4, burnt, come to the places 4 and 3 with the good side above, 5, 3 and 1 show the burnt one
        lies(burnt, 0, 53142, 7);
        TurnTops one = kitchen(WEAK, 1, 1);
        one.turn(0, 1);
        lies(one, 0, 1, 1);
    }

    private static void turnOfAllButTheBottom() {
        sentence("Stacks",
            "their order is the reverse then; in burnt and weak stacks each of them shows its other side");
        TurnTops plain = laid(GLUED, 6, 0, 246135, 0);
        plain.turn(0, 5);
        lies(plain, 0, 316425, 0);
        TurnTops weak = laid(WEAK, 5, 10, 24135, 16 + 1);
        weak.turn(0, 4);
        // 5 stays, burnt; 2 comes to place 3 with the good side above; 3, 1 and 4 show the burnt one
        lies(weak, 0, 31425, 16 + 7);
    }

    private static void termsOfGaps() {
        joinedBySize();
        joinedByBothGood();
        joinedByBothBurnt();
        joinedByDifferentSides();
        joinedWithThePlate();
        fewestAndMostGaps();
    }

    private static void joinedBySize() {
        sentence("Stacks", "Two neighbors .. are joined if their sizes differ by 1");
        for (int kind : new int[] {PLAIN, GLUED}) {
            is("123, by 1", laid(kind, 3, 0, 123, 0).stackOf(0, 5), 0);
            is("321, by 1 downwards", laid(kind, 3, 0, 321, 0).stackOf(0, 5), 1);
            is("132, 1 and 3 by 2", laid(kind, 3, 0, 132, 0).stackOf(0, 5), 2);
            is("312, 3 and 1 by 2", laid(kind, 3, 0, 312, 0).stackOf(0, 5), 2);
        }
    }

    private static void joinedByBothGood() {
        sentence("Stacks", "in burnt and weak stacks, also both show the good side and the lower one is the greater");
        for (int kind : new int[] {BURNT, WEAK}) {
            is("12", laid(kind, 2, strong(kind), 12, 0).stackOf(0, 5), 0);
            is("21", laid(kind, 2, strong(kind), 21, 0).stackOf(0, 5), 2);
            is("132, by 2", laid(kind, 3, strong(kind), 132, 0).stackOf(0, 5), 3);
        }
    }

    private static void joinedByBothBurnt() {
        sentence("Stacks", "or both show the burnt side and the lower one is the smaller");
        for (int kind : new int[] {BURNT, WEAK}) {
            is("21", laid(kind, 2, strong(kind), 21, 3).stackOf(0, 5), 1);
            is("12", laid(kind, 2, strong(kind), 12, 3).stackOf(0, 5), 2);
            is("312, by 2", laid(kind, 3, strong(kind), 312, 3).stackOf(0, 5), 3);
        }
    }

    private static void joinedByDifferentSides() {
        sentence("Stacks", "both show the good side .. or both show the burnt side");
        for (int kind : new int[] {BURNT, WEAK}) {
            is("12, the upper one burnt", laid(kind, 2, strong(kind), 12, 1).stackOf(0, 5), 1);
            is("12, the lower one burnt", laid(kind, 2, strong(kind), 12, 2).stackOf(0, 5), 2);
            is("21, the upper one burnt", laid(kind, 2, strong(kind), 21, 1).stackOf(0, 5), 2);
            is("21, the lower one burnt", laid(kind, 2, strong(kind), 21, 2).stackOf(0, 5), 2);
        }
    }

    private static void joinedWithThePlate() {
        sentence("Stacks",
            "The cake at the bottom is joined with the plate if it has the size n, and shows the good side.");
        is("n", laid(PLAIN, 6, 0, 135246, 0).stackOf(0, 5), 5);
        is("n - 1", laid(PLAIN, 6, 0, 136425, 0).stackOf(0, 5), 6);
        is("n, good", laid(BURNT, 1, 0, 1, 0).stackOf(0, 5), 0);
        is("n, burnt", laid(BURNT, 1, 0, 1, 1).stackOf(0, 5), 1);
        is("n, burnt", laid(WEAK, 3, 6, 123, 4).stackOf(0, 5), 2);
    }

    private static void fewestAndMostGaps() {
        sentence("Stacks",
            "The gaps are how many of the n pairs (n - 1 neighbors, the bottom and the plate) are not joined.");
        for (int kind : KINDS) {
            is("none", kitchen(kind, mostCakes(kind), strong(kind)).stackOf(0, 5), 0);
        }
        is("all of 6", laid(PLAIN, 6, 0, 246135, 0).stackOf(0, 5), 6);
        is("all of 6", laid(GLUED, 6, 0, 246135, 0).stackOf(0, 5), 6);
        is("all of 5", laid(BURNT, 5, 0, 12345, 31).stackOf(0, 5), 5);
        is("all of 5", laid(WEAK, 5, 1, 54321, 0).stackOf(0, 5), 5);
        is("the one of 1", laid(WEAK, 1, 1, 1, 1).stackOf(0, 5), 1);
    }

    private static void termsOfPossibleTurns() {
        possibleInPlainAndBurnt();
        possibleInGlued();
        possibleInGluedForAll();
        possibleInWeak();
    }

    private static void possibleInPlainAndBurnt() {
        sentence("Stacks", "A turn of the top k is possible always in plain and burnt stacks");
        for (int many = 1; many <= 6; many++) {
            isTrue("plain, sorted", kitchen(PLAIN, 6, 0).turn(0, many) >= 0);
            isTrue("plain, joined but for the plate", laid(PLAIN, 6, 0, 654321, 0).turn(0, many) >= 0);
        }
        for (int many = 1; many <= 5; many++) {
            isTrue("burnt, sorted", kitchen(BURNT, 5, 0).turn(0, many) >= 0);
            isTrue("burnt, joined but for the plate", laid(BURNT, 5, 0, 54321, 31).turn(0, many) >= 0);
        }
    }

    private static void possibleInGlued() {
        sentence("Stacks", "in glued ones if the cake at place k - 1 is not joined with the one below it");
        is("2 3, joined", laid(GLUED, 4, 0, 2314, 0).turn(0, 1), IMPOSSIBLE);
        is("3 1, not joined", laid(GLUED, 4, 0, 2314, 0).turn(0, 2), 1);
        is("1 4, not joined", laid(GLUED, 4, 0, 2314, 0).turn(0, 3), 2);
        is("3 2, joined downwards", laid(GLUED, 4, 0, 3241, 0).turn(0, 1), IMPOSSIBLE);
    }

    private static void possibleInGluedForAll() {
        sentence("Stacks", "(or with the plate, for k = n)");
        is("4 at the bottom", laid(GLUED, 4, 0, 2314, 0).turn(0, 4), IMPOSSIBLE);
        is("3 at the bottom", laid(GLUED, 4, 0, 4123, 0).turn(0, 4), 1);
        is("1 at the bottom", laid(GLUED, 4, 0, 4321, 0).turn(0, 4), 0);
        is("one cake", kitchen(GLUED, 1, 0).turn(0, 1), IMPOSSIBLE);
        is("one burnt cake is not glued", kitchen(BURNT, 1, 0).turn(0, 1), 1);
    }

    private static void possibleInWeak() {
        sentence("Stacks", "in weak ones if the sizes of the top k cakes together are at most the strength");
        is("15 of 15", kitchen(WEAK, 5, 15).turn(0, 5), 1);
        is("15 of 14", kitchen(WEAK, 5, 14).turn(0, 5), IMPOSSIBLE);
        is("15 of 16", kitchen(WEAK, 5, 16).turn(0, 5), 1);
        is("10 of 10", kitchen(WEAK, 5, 10).turn(0, 4), 1);
        is("10 of 9", kitchen(WEAK, 5, 9).turn(0, 4), IMPOSSIBLE);
        is("1 of 1", kitchen(WEAK, 1, 1).turn(0, 1), 1);
        is("2 of 1", laid(WEAK, 2, 1, 21, 0).turn(0, 1), IMPOSSIBLE);
        is("sides do not count, 2 of 2", laid(WEAK, 2, 2, 21, 1).turn(0, 1), 2);
        is("sides do not count, 2 of 1", laid(WEAK, 2, 1, 21, 1).turn(0, 1), IMPOSSIBLE);
    }

    // ---- the term "Codes"

    private static void termsOfCodes() {
        codes();
        sides();
        ranks();
        ranksBySides();
    }

    private static void codes() {
        sentence("Codes", "the number whose decimal digits are its sizes from the top to the bottom");
        is("one cake", kitchen(PLAIN, 1, 0).stackOf(0, 3), 1);
        is("six cakes", kitchen(PLAIN, 6, 0).stackOf(0, 3), 123456);
        TurnTops x = kitchen(BURNT, 5, 0);
        x.turn(0, 5);
        is("burnt ones show no sign", x.stackOf(0, 3), 54321);
    }

    private static void sides() {
        sentence("Codes", "The sides are told as a set of places at which the burnt side is above.");
        TurnTops x = kitchen(BURNT, 5, 0);
        is("none", x.stackOf(0, 4), 0);
        x.turn(0, 1);
        is("place 0", x.stackOf(0, 4), 1);
        x.turn(0, 5);
        is("all but place 4", x.stackOf(0, 4), 15);
        x.turn(0, 5);
        x.turn(0, 1);
        x.turn(0, 5);
        is("all", x.stackOf(0, 4), 31);
    }

    private static void ranks() {
        sentence("Codes", "The rank of a stack is how many stacks of its kind with as many cakes come ahead of it");
        int[] stacks = {1, 2, 6, 24, 120, 720};
        for (int kind : KINDS) {
            for (int cakes = 1; cakes <= mostCakes(kind); cakes++) {
                int allSides = isSided(kind) ? (1 << cakes) - 1 : 0;
                is("the first", kitchen(kind, cakes, strong(kind)).stackOf(0, 7), 0);
                is("the last", laid(kind, cakes, strong(kind), reverse(cakes), allSides).stackOf(0, 7),
                    stacks[cakes - 1] * (allSides + 1) - 1);
            }
        }
        is("strengths do not count", laid(WEAK, 2, 1, 21, 3).stackOf(0, 7), 7);
    }

    private static void ranksBySides() {
        sentence("Codes", "by their codes, a lesser one first, of several by their sides as numbers");
        for (int kind : new int[] {BURNT, WEAK}) {
            is("the last of the first code", laid(kind, 5, strong(kind), 12345, 31).stackOf(0, 7), 31);
            is("the first of the next code", laid(kind, 5, strong(kind), 12354, 0).stackOf(0, 7), 32);
            is("sides 15", laid(kind, 5, strong(kind), 12345, 15).stackOf(0, 7), 15);
            is("sides 16", laid(kind, 5, strong(kind), 12345, 16).stackOf(0, 7), 16);
        }
    }

    // ---- promise 1

    private static void newObject() {
        sentence("Promise 1", "Creates a kitchen without stacks.");
        TurnTops x = new TurnTops();
        is("stacks", x.count(0), 0);
        is("sorted ones", x.count(1), 0);
        is("gaps", x.count(2), 0);
        is("stack 0", x.stackOf(0, 0), INVALID);
        is("the first stack", x.stack(PLAIN, 1, 0), 0);
        is("stacks of another kitchen", new TurnTops().count(0), 0);
    }

    // ---- promise 2

    private static void stack() {
        stackKind();
        stackCakes();
        stackStrength();
        stackStrengthOfOthers();
        stackIsSorted();
        stackNumber();
        stackLimit();
    }

    private static void stackKind() {
        sentence("Promise 2", "kind: 0 to 3");
        range(TurnTops::new, 0, 2, (x, kind) -> x.stack(kind, 1, 0));
        range(TurnTops::new, 3, 3, (x, kind) -> x.stack(kind, 1, 1));
        for (int kind : KINDS) {
            is("kind", kitchen(kind, 1, strong(kind)).stackOf(0, 0), kind);
        }
        is("kind 4 without strength", new TurnTops().stack(4, 1, 0), INVALID);
        is("kind -1 with a strength", new TurnTops().stack(-1, 1, 1), INVALID);
    }

    private static void stackCakes() {
        for (int kind : KINDS) {
            int most = mostCakes(kind);
            sentence("Promise 2", most == 6 ? "cakes: 1 to 6 for the kinds 0 and 2" : "1 to 5 for the kinds 1 and 3");
            range(TurnTops::new, 1, most, (x, cakes) -> x.stack(kind, cakes, strong(kind)));
            is("one cake", kitchen(kind, 1, strong(kind)).stackOf(0, 3), 1);
            is("most cakes", kitchen(kind, most, strong(kind)).stackOf(0, 3), most == 6 ? 123456 : 12345);
        }
    }

    private static void stackStrength() {
        sentence("Promise 2", "strength: 1 to 21 for the kind 3");
        range(TurnTops::new, 1, 21, (x, strength) -> x.stack(WEAK, 5, strength));
        range(TurnTops::new, 1, 21, (x, strength) -> x.stack(WEAK, 1, strength));
        is("the least", kitchen(WEAK, 5, 1).stackOf(0, 2), 1);
        is("the greatest", kitchen(WEAK, 5, 21).stackOf(0, 2), 21);
    }

    private static void stackStrengthOfOthers() {
        sentence("Promise 2", "strength: 1 to 21 for the kind 3, otherwise 0");
        for (int kind : new int[] {PLAIN, BURNT, GLUED}) {
            range(TurnTops::new, 0, 0, (x, strength) -> x.stack(kind, 3, strength));
        }
    }

    private static void stackIsSorted() {
        sentence("Promise 2", "Adds a stack, which is sorted.");
        for (int kind : KINDS) {
            for (int cakes : new int[] {1, mostCakes(kind)}) {
                TurnTops x = kitchen(kind, cakes, strong(kind));
                is("sorted", x.stackOf(0, 6), 1);
                lies(x, 0, 123456 / (int) Math.pow(10, 6 - cakes), 0);
            }
        }
        TurnTops again = laid(BURNT, 2, 0, 21, 3);
        again.undo();
        again.undo();
        again.stack(BURNT, 2, 0);
        lies(again, 0, 12, 0);
    }

    private static void stackNumber() {
        sentence("Promise 2", "Returns its number");
        TurnTops x = new TurnTops();
        for (int number = 0; number < 5; number++) {
            is("number", x.stack(number % 4, 2, strong(number % 4)), number);
            is("kind", x.stackOf(number, 0), number % 4);
        }
    }

    private static void stackLimit() {
        sentence("Promise 2", "LIMIT_REACHED if there are 5");
        TurnTops x = kitchenWith(5);
        is("the sixth", x.stack(PLAIN, 1, 0), LIMIT);
        is("the sixth, weak", x.stack(WEAK, 5, 21), LIMIT);
        is("stacks", x.count(0), 5);
        x.undo();
        is("the fifth, behind undo", x.stack(PLAIN, 1, 0), 4);
        is("the sixth", x.stack(PLAIN, 1, 0), LIMIT);
    }

    // ---- promise 3

    private static void lay() {
        stackNumbers("Promise 3", (x, stack) -> x.lay(stack, 312, 0));
        layFirstAndLastCode();
        layWrongCodes();
        laySides();
        laySidesOfPlainAndGlued();
        layGaps();
        layAsItLies();
    }

    private static void layFirstAndLastCode() {
        sentence("Promise 3", "code: a code of its cakes", "the least and the greatest one");
        for (int kind : KINDS) {
            for (int cakes = 1; cakes <= mostCakes(kind); cakes++) {
                TurnTops x = kitchen(kind, cakes, strong(kind));
                int least = x.stackOf(0, 3);
                int greatest = reverse(cakes);
                isTrue("greatest", x.lay(0, greatest, 0) >= 0);
                lies(x, 0, greatest, 0);
                is("least", x.lay(0, least, 0), 0);
                is("below", x.lay(0, least - 1, 0), INVALID);
                is("above", x.lay(0, greatest + 1, 0), INVALID);
            }
        }
    }

    private static void layWrongCodes() {
        sentence("Promise 3", "INVALID_ARGUMENT if .. code is not one of its cakes");
        TurnTops x = laid(BURNT, 4, 0, 4213, 5);
        int[] wrong = {0, 1, -1, -1234, 123, 234, 12345, 12340, 1230, 2340, 1233, 1135, 1235, 4444, 5123, 41234,
            Integer.MIN_VALUE, Integer.MAX_VALUE};
        for (int code : wrong) {
            is("code " + code, x.lay(0, code, 5), INVALID);
        }
        lies(x, 0, 4213, 5);
        is("of one cake, 2", kitchen(PLAIN, 1, 0).lay(0, 2, 0), INVALID);
        is("of one cake, 11", kitchen(PLAIN, 1, 0).lay(0, 11, 0), INVALID);
        is("of six cakes, a 7", kitchen(PLAIN, 6, 0).lay(0, 123457, 0), INVALID);
        is("of six cakes, seven", kitchen(PLAIN, 6, 0).lay(0, 1234567, 0), INVALID);
    }

    private static void laySides() {
        sentence("Promise 3", "sides: the set of places at which the burnt side is above");
        for (int kind : new int[] {BURNT, WEAK}) {
            for (int cakes = 1; cakes <= 5; cakes++) {
                int code = reverse(cakes);
                int all = (1 << cakes) - 1;
                TurnTops x = kitchen(kind, cakes, strong(kind));
                isTrue("no place", x.lay(0, code, 0) >= 0);
                lies(x, 0, code, 0);
                isTrue("all places", x.lay(0, code, all) >= 0);
                lies(x, 0, code, all);
                is("a place below the bottom", x.lay(0, code, all + 1), INVALID);
                is("-1", x.lay(0, code, -1), INVALID);
                is("the greatest number", x.lay(0, code, Integer.MAX_VALUE), INVALID);
                is("the least number", x.lay(0, code, Integer.MIN_VALUE), INVALID);
                lies(x, 0, code, all);
            }
        }
    }

    private static void laySidesOfPlainAndGlued() {
        sentence("Promise 3", "sides: .. 0 for plain and glued stacks");
        for (int kind : new int[] {PLAIN, GLUED}) {
            range(() -> kitchen(kind, 3, 0), 0, 0, (x, sides) -> x.lay(0, 312, sides));
            is("all places", kitchen(kind, 3, 0).lay(0, 312, 7), INVALID);
        }
    }

    private static void layGaps() {
        sentence("Promise 3", "Returns its gaps then");
        is("as many as cakes", kitchen(PLAIN, 6, 0).lay(0, 246135, 0), 6);
        is("none", laid(PLAIN, 6, 0, 246135, 0).lay(0, 123456, 0), 0);
        is("one burnt cake", kitchen(BURNT, 1, 0).lay(0, 1, 1), 1);
    }

    private static void layAsItLies() {
        sentence("Promise 3", "Lays the cakes of a stack anew.", "as they lie already");
        TurnTops x = kitchen(GLUED, 3, 0);
        is("gaps", x.lay(0, 123, 0), 0);
        is("it is a change", x.count(11), 2);
        is("it is no turn", x.stackOf(0, 9), 0);
    }

    // ---- promise 4

    private static void turn() {
        stackNumbers("Promise 4", (x, stack) -> x.turn(stack, 1));
        turnMany();
        turnNotPossible();
        turnGaps();
    }

    private static void turnMany() {
        sentence("Promise 4", "many: 1 to the number of its cakes");
        for (int kind : new int[] {PLAIN, BURNT, WEAK}) {
            for (int cakes = 1; cakes <= mostCakes(kind); cakes++) {
                int n = cakes;
                range(() -> kitchen(kind, n, strong(kind)), 1, n, (x, many) -> x.turn(0, many));
            }
        }
        range(() -> laid(GLUED, 6, 0, 246135, 0), 1, 6, (x, many) -> x.turn(0, many));
    }

    private static void turnNotPossible() {
        sentence("Promise 4", "NOT_POSSIBLE if this turn is not possible");
        TurnTops glued = laid(GLUED, 3, 0, 213, 0);
        is("joined with the one below", glued.turn(0, 1), IMPOSSIBLE);
        is("joined with the plate", glued.turn(0, 3), IMPOSSIBLE);
        is("not joined", glued.turn(0, 2), 0);
        is("made just before", glued.turn(0, 2), IMPOSSIBLE);
        TurnTops weak = laid(WEAK, 3, 3, 213, 0);
        is("6 of 3", weak.turn(0, 3), IMPOSSIBLE);
        is("3 of 3", weak.turn(0, 2), 2);
    }

    private static void turnGaps() {
        sentence("Promise 4", "Returns its gaps then");
        is("the last gap", laid(PLAIN, 6, 0, 654321, 0).turn(0, 6), 0);
        is("the first gap", kitchen(PLAIN, 6, 0).turn(0, 6), 1);
        is("all stay", laid(PLAIN, 6, 0, 246135, 0).turn(0, 1), 6);
    }

    // ---- promise 5

    private static void doRow() {
        stackNumbers("Promise 5", (x, stack) -> x.doRow(stack, 12321));
        doRowFewestAndMostTurns();
        doRowNotPositive();
        doRowTooLong();
        doRowNotPossibleWhenItComes();
        doRowPossibleWhenItComes();
        doRowDigitZero();
        doRowDigitTooGreat();
        doRowAllOrNone();
    }

    private static void doRowFewestAndMostTurns() {
        sentence("Promise 5", "row: a row of 1 to 8 turns");
        TurnTops x = laid(PLAIN, 6, 0, 246135, 0);
        is("1 turn, the least", x.doRow(0, 1), 6);
        is("turns", x.count(10), 1);
        is("8 turns, the least", x.doRow(0, 11111111), 6);
        is("turns", x.count(10), 9);
        is("7 turns", x.doRow(0, 6666666), 6);
        lies(x, 0, 531642, 0);
        is("8 turns, the greatest", x.doRow(0, 66666666), 6);
        is("turns", x.count(10), 24);
        is("work", x.count(7) + x.count(8) + x.count(9), 9 + 42 + 48);
        is("each row is one change", x.undo(), 3);
        is("each row is one change", x.count(10), 16);
    }

    private static void doRowNotPositive() {
        sentence("Promise 5", "INVALID_ARGUMENT if .. row is not positive");
        TurnTops x = kitchen(PLAIN, 6, 0);
        for (int row : new int[] {0, -1, -6, -11111111, -11111112, Integer.MIN_VALUE}) {
            is("row " + row, x.doRow(0, row), INVALID);
        }
        is("the least positive one", x.doRow(0, 1), 0);
    }

    private static void doRowTooLong() {
        sentence("Promise 5", "INVALID_ARGUMENT if .. row is not positive or has more than 8 digits");
        TurnTops x = kitchen(PLAIN, 6, 0);
        for (int row : new int[] {100000000, 111111111, 666666666, 1111111111, Integer.MAX_VALUE}) {
            is("row " + row, x.doRow(0, row), INVALID);
        }
        is("8 digits, the greatest", x.doRow(0, 99999999), IMPOSSIBLE);
        is("8 digits, the least", x.doRow(0, 10000000), IMPOSSIBLE);
    }

    private static void doRowNotPossibleWhenItComes() {
        sentence("Promise 5", "NOT_POSSIBLE if one of the turns is not possible when it comes");
        TurnTops glued = laid(GLUED, 3, 0, 132, 0);
        is("the first one", glued.doRow(0, 2), IMPOSSIBLE);
        // 3 2 3 sorts it, and nothing can be turned then
        is("the last one, which was possible at first", glued.doRow(0, 3233), IMPOSSIBLE);
        lies(glued, 0, 132, 0);
        TurnTops weak = laid(WEAK, 3, 3, 123, 0);
        is("the last one of eight", weak.doRow(0, 22222223), IMPOSSIBLE);
        lies(weak, 0, 123, 0);
    }

    private static void doRowPossibleWhenItComes() {
        sentence("Promise 5", "not possible when it comes", "one that is possible just then");
        TurnTops glued = laid(GLUED, 3, 0, 132, 0);
        is("not at first", glued.turn(0, 2), IMPOSSIBLE);
        is("behind the turn of 3", glued.doRow(0, 323), 0);
        TurnTops weak = laid(WEAK, 3, 4, 132, 0);
        is("3 1 2 is too heavy for 3", weak.doRow(0, 23), IMPOSSIBLE);
        is("1 3 is not, nor are 3 1", weak.doRow(0, 22), 3);
    }

    private static void doRowDigitZero() {
        sentence("Promise 5", "(also a digit 0");
        TurnTops x = kitchen(PLAIN, 6, 0);
        for (int row : new int[] {10, 101, 60, 606, 11111110, 10111111, 66666600}) {
            is("row " + row, x.doRow(0, row), IMPOSSIBLE);
        }
        is("turns", x.count(10), 0);
    }

    private static void doRowDigitTooGreat() {
        sentence("Promise 5", "or one that is greater than the number of cakes)");
        for (int cakes = 1; cakes <= 6; cakes++) {
            TurnTops x = kitchen(PLAIN, cakes, 0);
            is("alone", x.doRow(0, cakes + 1), IMPOSSIBLE);
            is("9", x.doRow(0, 9), IMPOSSIBLE);
            is("the first one", x.doRow(0, (cakes + 1) * 10 + 1), IMPOSSIBLE);
            is("the last one", x.doRow(0, 10 + cakes + 1), IMPOSSIBLE);
            is("the last one of eight", x.doRow(0, 11111110 + cakes + 1), IMPOSSIBLE);
            is("turns", x.count(10), 0);
            isTrue("as great as the cakes", x.doRow(0, 11111110 + cakes) >= 0);
            is("turns", x.count(10), 8);
        }
    }

    private static void doRowAllOrNone() {
        sentence("Promise 5", "Makes a row of turns, all or none.");
        TurnTops x = laid(BURNT, 3, 0, 312, 2);
        int[] before = seen(x);
        is("refused at the last turn", x.doRow(0, 12312314), IMPOSSIBLE);
        same("none", seen(x), before);
        is("refused at the first turn", x.doRow(0, 41231231), IMPOSSIBLE);
        same("none", seen(x), before);
        isTrue("all", x.doRow(0, 12312312) >= 0);
        is("turns", x.stackOf(0, 9), 8);
    }

    // ---- promise 6

    private static void stackOf() {
        stackNumbers("Promise 6", (x, stack) -> x.stackOf(stack, 9));
        stackOfWhat();
        stackOfStrength();
        stackOfGaps();
        stackOfSorted();
        stackOfRank();
        stackOfPossibleTurns();
        stackOfTurnsMade();
        stackOfTurnsAndLay();
    }

    private static void stackOfWhat() {
        sentence("Promise 6", "what: 0 .. 9");
        range(() -> laid(BURNT, 2, 0, 21, 1), 0, 9, (x, what) -> x.stackOf(0, what));
        TurnTops x = laid(BURNT, 2, 0, 21, 1);
        is("0: its kind", x.stackOf(0, 0), BURNT);
        is("9: the turns that were made of it so far", x.stackOf(0, 9), 0);
    }

    private static void stackOfStrength() {
        sentence("Promise 6", "2: its strength (0 if it is not weak)");
        for (int kind : KINDS) {
            is("strength", kitchen(kind, 5, strong(kind)).stackOf(0, 2), strong(kind));
        }
    }

    private static void stackOfGaps() {
        sentence("Promise 6", "5: its gaps");
        is("none", kitchen(PLAIN, 6, 0).stackOf(0, 5), 0);
        is("all", laid(PLAIN, 6, 0, 246135, 0).stackOf(0, 5), 6);
    }

    private static void stackOfSorted() {
        sentence("Promise 6", "6: 1 if it is sorted, otherwise 0");
        TurnTops x = kitchen(BURNT, 1, 0);
        is("sorted", x.stackOf(0, 6), 1);
        x.turn(0, 1);
        is("otherwise", x.stackOf(0, 6), 0);
        x.turn(0, 1);
        is("sorted again", x.stackOf(0, 6), 1);
    }

    private static void stackOfRank() {
        sentence("Promise 6", "7: its rank");
        is("the first", kitchen(PLAIN, 6, 0).stackOf(0, 7), 0);
        is("the second", laid(PLAIN, 6, 0, 123465, 0).stackOf(0, 7), 1);
        is("the last of 720", laid(PLAIN, 6, 0, 654321, 0).stackOf(0, 7), 719);
        is("the last of 3840", laid(BURNT, 5, 0, 54321, 31).stackOf(0, 7), 3839);
    }

    private static void stackOfPossibleTurns() {
        sentence("Promise 6", "8: the turns that are possible, as a set (bit k for the turn of k)");
        is("all of 6", kitchen(PLAIN, 6, 0).stackOf(0, 8), 2 + 4 + 8 + 16 + 32 + 64);
        is("all of 1", kitchen(BURNT, 1, 0).stackOf(0, 8), 2);
        is("none, glued", kitchen(GLUED, 6, 0).stackOf(0, 8), 0);
        is("all, glued", laid(GLUED, 6, 0, 246135, 0).stackOf(0, 8), 126);
        is("just that of 6, glued", laid(GLUED, 6, 0, 654321, 0).stackOf(0, 8), 64);
        is("none, weak", laid(WEAK, 5, 4, 51234, 0).stackOf(0, 8), 0);
        is("just that of 1, weak", laid(WEAK, 5, 5, 51234, 0).stackOf(0, 8), 2);
        is("all, weak", laid(WEAK, 5, 15, 51234, 0).stackOf(0, 8), 62);
        is("all but that of 5, weak", laid(WEAK, 5, 14, 51234, 0).stackOf(0, 8), 30);
    }

    private static void stackOfTurnsMade() {
        sentence("Promise 6", "9: the turns that were made of it so far");
        TurnTops x = kitchenWith(2);
        is("none", x.stackOf(1, 9), 0);
        x.turn(1, 1);
        x.doRow(1, 11111111);
        write(x, "B12;A1;B3;");
        x.play();
        is("by turn, doRow and play", x.stackOf(1, 9), 12);
        is("of the other", x.stackOf(0, 9), 1);
        is("refused", x.turn(1, 4), INVALID);
        is("refused", x.doRow(1, 14), IMPOSSIBLE);
        is("refused ones are not made", x.stackOf(1, 9), 12);
        x.undo();
        is("undone ones are not made", x.stackOf(1, 9), 9);
    }

    private static void stackOfTurnsAndLay() {
        sentence("Promise 6", "9: the turns that were made of it so far", "also before it was laid anew");
        TurnTops x = kitchen(PLAIN, 3, 0);
        x.doRow(0, 123);
        x.lay(0, 312, 0);
        is("turns", x.stackOf(0, 9), 3);
    }

    // ---- promise 7

    private static void cakeAt() {
        stackNumbers("Promise 7", (x, stack) -> x.cakeAt(stack, 0));
        cakeAtPlace();
        cakeAtBurnt();
    }

    private static void cakeAtPlace() {
        sentence("Promise 7", "place: 0 to the number of its cakes less 1");
        for (int kind : KINDS) {
            for (int cakes = 1; cakes <= mostCakes(kind); cakes++) {
                int n = cakes;
                range(() -> kitchen(kind, n, strong(kind)), 0, n - 1, (x, place) -> x.cakeAt(0, place));
                is("top", kitchen(kind, n, strong(kind)).cakeAt(0, 0), 1);
                is("bottom", kitchen(kind, n, strong(kind)).cakeAt(0, n - 1), n);
            }
        }
    }

    private static void cakeAtBurnt() {
        sentence("Promise 7", "Returns its size, or this less 10 if it shows its burnt side");
        for (int kind : new int[] {BURNT, WEAK}) {
            TurnTops x = laid(kind, 5, strong(kind), 12345, 1 + 16);
            is("the least, burnt", x.cakeAt(0, 0), -9);
            is("2", x.cakeAt(0, 1), 2);
            is("4", x.cakeAt(0, 3), 4);
            is("the greatest, burnt", x.cakeAt(0, 4), -5);
        }
    }

    // ---- promise 8

    private static void gapsBehind() {
        stackNumbers("Promise 8", (x, stack) -> x.gapsBehind(stack, 1));
        gapsBehindMany();
        gapsBehindAllTurns();
        gapsBehindNotPossible();
    }

    private static void gapsBehindMany() {
        sentence("Promise 8", "many: 1 to the number of its cakes");
        for (int kind : KINDS) {
            for (int cakes = 1; cakes <= mostCakes(kind); cakes++) {
                int n = cakes;
                range(() -> kitchen(kind, n, strong(kind)), 1, n, (x, many) -> x.gapsBehind(0, many));
            }
        }
    }

    private static void gapsBehindAllTurns() {
        sentence("Promise 8", "Returns the gaps");
        TurnTops x = laid(PLAIN, 6, 0, 543216, 0);
        // 5 4 3 2 1 are joined, 1 and 6 are not
        is("no gap is left", x.gapsBehind(0, 5), 0);
        is("of 1", x.gapsBehind(0, 1), 1);
        is("of 6", x.gapsBehind(0, 6), 2);
        is("of 2", x.gapsBehind(0, 2), 2);
        lies(x, 0, 543216, 0);
        is("it is no turn", x.count(10), 0);
    }

    private static void gapsBehindNotPossible() {
        sentence("Promise 8", "Tells the gaps behind a turn, whether it is possible or not.");
        TurnTops glued = kitchen(GLUED, 6, 0);
        is("glued, not possible", glued.gapsBehind(0, 1), 0);
        is("glued, not possible", glued.gapsBehind(0, 6), 1);
        is("one glued cake", kitchen(GLUED, 1, 0).gapsBehind(0, 1), 0);
        TurnTops weak = kitchen(WEAK, 5, 1);
        is("weak, not possible", weak.gapsBehind(0, 5), 1);
        is("weak, possible", weak.gapsBehind(0, 1), 1);
    }
}
