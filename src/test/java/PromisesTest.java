/** Each promise by answers that were worked out by hand from the document. */
public final class PromisesTest extends Checks {
    public static void main(String[] args) {
        newObject();
        stack();
        lay();
        laySides();
        turn();
        turnGluedAndWeak();
        doRow();
        stackOf();
        stackOfAllRanks();
        cakeAt();
        gapsBehind();
        fewest();
        fewestWithNineTurns();
        leastWork();
        ways();
        lookedAt();
        simple();
        bestTurn();
        ranked();
        ofDistance();
        count();
        undo();
        undoRestoresAllButTheText();
        type();
        clearText();
        fault();
        faultBehindTurns();
        play();
        errorsChangeNothing();
        end();
    }

    private static void newObject() {
        about("Promise 1");
        TurnTops x = new TurnTops();
        for (int what = 0; what <= 12; what++) {
            is("count " + what, x.count(what), 0);
        }
        is("a stack's kind", x.stackOf(0, 0), INVALID);
        is("undo", x.undo(), IMPOSSIBLE);
        is("fault", x.fault(0), NOT_FOUND);
        is("clearText", x.clearText(), 0);
    }

    private static void stack() {
        about("Promise 2");
        int[][] good = {{PLAIN, 1, 0}, {PLAIN, 6, 0}, {BURNT, 1, 0}, {BURNT, 5, 0}, {GLUED, 1, 0}, {GLUED, 6, 0},
            {WEAK, 1, 1}, {WEAK, 5, 21}, {WEAK, 1, 21}, {WEAK, 5, 1}};
        for (int[] g : good) {
            TurnTops x = kitchen(g[0], g[1], g[2]);
            is("kind", x.stackOf(0, 0), g[0]);
            is("cakes", x.stackOf(0, 1), g[1]);
            is("strength", x.stackOf(0, 2), g[2]);
            is("sorted", x.stackOf(0, 6), 1);
            is("it is a change", x.count(11), 1);
        }
        int[][] bad = {{-1, 3, 0}, {4, 3, 0}, {PLAIN, 0, 0}, {PLAIN, 7, 0}, {GLUED, 0, 0}, {GLUED, 7, 0},
            {BURNT, 0, 0}, {BURNT, 6, 0}, {WEAK, 0, 3}, {WEAK, 6, 3}, {WEAK, 3, 0}, {WEAK, 3, 22}, {WEAK, 3, -1},
            {PLAIN, 3, 1}, {BURNT, 3, 1}, {GLUED, 3, 1}, {PLAIN, 3, -1}};
        TurnTops x = new TurnTops();
        for (int[] b : bad) {
            is("stack " + b[0] + ", " + b[1] + ", " + b[2], x.stack(b[0], b[1], b[2]), INVALID);
        }
        for (int never : NEVER) {
            is("kind " + never, x.stack(never, 3, 0), INVALID);
            is("cakes " + never, x.stack(PLAIN, never, 0), INVALID);
            is("strength " + never, x.stack(WEAK, 3, never), INVALID);
        }
        for (int i = 0; i < 5; i++) {
            is("number", x.stack(PLAIN, 3, 0), i);
        }
        is("the sixth", x.stack(PLAIN, 3, 0), LIMIT);
        is("a wrong sixth", x.stack(PLAIN, 7, 0), INVALID);
        is("stacks", x.count(0), 5);
    }

    private static void lay() {
        about("Promise 3");
        TurnTops x = kitchen(PLAIN, 3, 0);
        is("312", x.lay(0, 312, 0), 2);
        is("321", x.lay(0, 321, 0), 1);
        is("231", x.lay(0, 231, 0), 2);
        is("123", x.lay(0, 123, 0), 0);
        is("changes", x.count(11), 4);
        for (int code : new int[] {0, -1, -123, 12, 1, 122, 124, 1234, 1230, 120, 23, 12345, Integer.MAX_VALUE}) {
            is("code " + code, x.lay(0, code, 0), INVALID);
        }
        for (int sides : new int[] {1, 7, -1, 8, Integer.MIN_VALUE, Integer.MAX_VALUE}) {
            is("sides of a plain stack " + sides, x.lay(0, 123, sides), INVALID);
        }
        for (int never : NEVER) {
            is("stack " + never, x.lay(never, 123, 0), INVALID);
        }
        is("no such stack", x.lay(1, 123, 0), INVALID);
        is("sides of a glued stack", kitchen(GLUED, 2, 0).lay(0, 12, 1), INVALID);
        is("six cakes", kitchen(GLUED, 6, 0).lay(0, 246135, 0), 6);
    }

    private static void laySides() {
        about("Promise 3");
        for (int kind : new int[] {BURNT, WEAK}) {
            TurnTops x = kitchen(kind, 3, kind == WEAK ? 6 : 0);
            is("123 all burnt", x.lay(0, 123, 7), 3);
            is("321 all burnt", x.lay(0, 321, 7), 1);
            is("321 all good", x.lay(0, 321, 0), 3);
            is("213 with 2 and 1 burnt", x.lay(0, 213, 3), 1);
            is("213 with 2 burnt", x.lay(0, 213, 1), 2);
            is("123 with 3 burnt", x.lay(0, 123, 4), 2);
            is("sides", x.lay(0, 123, 8), INVALID);
            is("sides", x.lay(0, 123, -1), INVALID);
            is("the last that was laid", x.stackOf(0, 4), 4);
        }
    }

    private static void turn() {
        about("Promise 4");
        TurnTops x = laid(PLAIN, 4, 0, 3142, 0);
        is("3", x.turn(0, 3), 3);
        is("code", x.stackOf(0, 3), 4132);
        is("4", x.turn(0, 4), 2);
        is("code", x.stackOf(0, 3), 2314);
        is("1", x.turn(0, 1), 2);
        is("code", x.stackOf(0, 3), 2314);
        is("0", x.turn(0, 0), INVALID);
        is("5", x.turn(0, 5), INVALID);
        is("no such stack", x.turn(1, 1), INVALID);
        for (int never : NEVER) {
            is("stack " + never, x.turn(never, 1), INVALID);
            is("turn of " + never, x.turn(0, never), INVALID);
        }
        TurnTops burnt = laid(BURNT, 3, 0, 231, 4);
        is("burnt 2", burnt.turn(0, 2), 1);
        is("code", burnt.stackOf(0, 3), 321);
        is("sides", burnt.stackOf(0, 4), 7);
    }

    private static void turnGluedAndWeak() {
        about("Promise 4");
        TurnTops glued = laid(GLUED, 3, 0, 213, 0);
        is("between joined neighbors", glued.turn(0, 1), IMPOSSIBLE);
        is("joined with the plate", glued.turn(0, 3), IMPOSSIBLE);
        is("out of range", glued.turn(0, 4), INVALID);
        is("at the gap", glued.turn(0, 2), 0);
        is("sorted", glued.turn(0, 2), IMPOSSIBLE);
        TurnTops weak = laid(WEAK, 3, 4, 312, 0);
        is("exactly the strength", weak.turn(0, 2), 3);
        is("code", weak.stackOf(0, 3), 132);
        is("sides", weak.stackOf(0, 4), 3);
        is("too heavy", weak.turn(0, 3), IMPOSSIBLE);
        is("light", weak.turn(0, 1), 3);
        is("turns of it", weak.stackOf(0, 9), 2);
    }

    private static void doRow() {
        about("Promise 5");
        TurnTops x = laid(PLAIN, 3, 0, 132, 0);
        is("232", x.doRow(0, 232), 0);
        is("one change", x.count(11), 3);
        is("turns of the hands", x.count(4) * 100 + x.count(5) * 10 + x.count(6), 111);
        is("work of the hands", x.count(7) * 100 + x.count(8) * 10 + x.count(9), 232);
        is("eight turns", x.doRow(0, 33333332), 2);
        is("turns of it", x.stackOf(0, 9), 11);
        for (int row : new int[] {0, -1, -232, 111111111, 100000000, Integer.MIN_VALUE, Integer.MAX_VALUE}) {
            is("row " + row, x.doRow(0, row), INVALID);
        }
        for (int row : new int[] {4, 9, 10, 20, 202, 24, 2224, 99999999, 11111110, 10000000}) {
            is("row " + row, x.doRow(0, row), IMPOSSIBLE);
        }
        is("all or none", x.stackOf(0, 3), 231);
        is("turns of it", x.stackOf(0, 9), 11);
        for (int never : NEVER) {
            is("stack " + never, x.doRow(never, 1), INVALID);
        }
        TurnTops glued = laid(GLUED, 3, 0, 132, 0);
        is("not possible when it comes", glued.doRow(0, 322), IMPOSSIBLE);
        is("as before", glued.stackOf(0, 3), 132);
        is("323", glued.doRow(0, 323), 0);
    }

    private static void stackOf() {
        about("Promise 6");
        TurnTops x = laid(WEAK, 3, 3, 213, 5);
        int[] due = {WEAK, 3, 3, 213, 5, 3, 0, 21, 6, 0};
        for (int what = 0; what <= 9; what++) {
            is("what " + what, x.stackOf(0, what), due[what]);
        }
        is("what 10", x.stackOf(0, 10), INVALID);
        is("no such stack", x.stackOf(1, 0), INVALID);
        for (int never : NEVER) {
            is("what " + never, x.stackOf(0, never), INVALID);
            is("stack " + never, x.stackOf(never, 0), INVALID);
        }
        is("strength of a plain one", kitchen(PLAIN, 2, 0).stackOf(0, 2), 0);
        is("possible turns of a sorted glued one", kitchen(GLUED, 4, 0).stackOf(0, 8), 0);
        is("possible turns of a plain one", kitchen(PLAIN, 6, 0).stackOf(0, 8), 126);
        is("possible turns of a burnt one", kitchen(BURNT, 5, 0).stackOf(0, 8), 62);
        is("possible turns of a glued one", laid(GLUED, 3, 0, 312, 0).stackOf(0, 8), 10);
        is("possible turns of a glued one", laid(GLUED, 3, 0, 321, 0).stackOf(0, 8), 8);
        is("no possible turn", laid(WEAK, 3, 2, 312, 0).stackOf(0, 8), 0);
        TurnTops burnt = laid(BURNT, 2, 0, 12, 1);
        is("right order, but burnt", burnt.stackOf(0, 6), 0);
        burnt.turn(0, 1);
        is("sorted", burnt.stackOf(0, 6), 1);
        burnt.lay(0, 21, 0);
        is("turns behind lay", burnt.stackOf(0, 9), 1);
    }

    /** The rank of each stack is its place among all that ranked tells, and these rise. */
    private static void stackOfAllRanks() {
        about("Promises 6 and 15");
        int[][] all = {{PLAIN, 4, 0, 24}, {GLUED, 4, 0, 24}, {BURNT, 3, 0, 48}, {WEAK, 3, 1, 48}};
        for (int[] a : all) {
            TurnTops x = kitchen(a[0], a[1], a[2]);
            int last = -1;
            for (int rank = 0; rank < a[3]; rank++) {
                int code = x.ranked(0, rank, 0);
                int sides = x.ranked(0, rank, 1);
                if (code * 32 + sides <= last) {
                    is("rising at " + rank, code * 32 + sides, last + 1);
                }
                last = code * 32 + sides;
                x.lay(0, code, sides);
                is("rank", x.stackOf(0, 7), rank);
            }
            is("behind the last", x.ranked(0, a[3], 0), NOT_FOUND);
        }
    }

    private static void cakeAt() {
        about("Promise 7");
        TurnTops x = laid(BURNT, 3, 0, 312, 5);
        is("top", x.cakeAt(0, 0), -7);
        is("middle", x.cakeAt(0, 1), 1);
        is("bottom", x.cakeAt(0, 2), -8);
        is("below", x.cakeAt(0, 3), INVALID);
        is("no such stack", x.cakeAt(1, 0), INVALID);
        for (int never : NEVER) {
            is("place " + never, x.cakeAt(0, never), INVALID);
            is("stack " + never, x.cakeAt(never, 0), INVALID);
        }
        is("bottom of six", kitchen(PLAIN, 6, 0).cakeAt(0, 5), 6);
    }

    private static void gapsBehind() {
        about("Promise 8");
        TurnTops x = laid(PLAIN, 3, 0, 312, 0);
        is("1", x.gapsBehind(0, 1), 2);
        is("2", x.gapsBehind(0, 2), 2);
        is("3", x.gapsBehind(0, 3), 1);
        is("0", x.gapsBehind(0, 0), INVALID);
        is("4", x.gapsBehind(0, 4), INVALID);
        is("no such stack", x.gapsBehind(1, 1), INVALID);
        for (int never : NEVER) {
            is("turn of " + never, x.gapsBehind(0, never), INVALID);
            is("stack " + never, x.gapsBehind(never, 1), INVALID);
        }
        is("nothing was turned", x.stackOf(0, 3), 312);
        is("not possible, glued", kitchen(GLUED, 3, 0).gapsBehind(0, 2), 1);
        is("not possible, weak", kitchen(WEAK, 3, 1).gapsBehind(0, 3), 1);
        is("burnt", kitchen(BURNT, 3, 0).gapsBehind(0, 1), 1);
    }

    private static void fewest() {
        about("Promise 9");
        TurnTops x = laid(PLAIN, 3, 0, 132, 0);
        is("turns", x.fewest(0, 0), 3);
        is("232 is ahead of 323", x.fewest(0, 1), 232);
        x.lay(0, 312, 0);
        is("turns", x.fewest(0, 0), 2);
        is("row", x.fewest(0, 1), 32);
        x.lay(0, 123, 0);
        is("turns of a sorted one", x.fewest(0, 0), 0);
        is("row of a sorted one", x.fewest(0, 1), 0);
        is("what 2", x.fewest(0, 2), INVALID);
        is("no such stack", x.fewest(1, 0), INVALID);
        for (int never : NEVER) {
            is("what " + never, x.fewest(0, never), INVALID);
            is("stack " + never, x.fewest(never, 0), INVALID);
        }
        is("232 is not possible if glued", laid(GLUED, 3, 0, 132, 0).fewest(0, 1), 323);
        TurnTops far = laid(BURNT, 5, 0, 12345, 31);
        is("ten turns are too many", far.fewest(0, 0), NOT_FOUND);
        is("and too many for a row", far.fewest(0, 1), NOT_FOUND);
        is("what is looked at first", far.fewest(0, 2), INVALID);
        TurnTops weak = laid(WEAK, 3, 3, 321, 0);
        is("no row at all", weak.fewest(0, 0), NOT_FOUND);
        weak.lay(0, 213, 3);
        is("a weak row", weak.fewest(0, 1), 2);
        TurnTops burnt = laid(BURNT, 2, 0, 12, 2);
        // 2 is burnt at the bottom: to the top with it (good then), over (burnt again), and down
        is("a burnt row", burnt.fewest(0, 1), 212);
    }

    /** Of a stack that needs ten turns, the first of them makes one that needs nine. */
    private static void fewestWithNineTurns() {
        about("Promise 9");
        TurnTops x = laid(BURNT, 5, 0, 12345, 31);
        int nines = 0;
        for (int many = 1; many <= 5; many++) {
            x.turn(0, many);
            if (x.fewest(0, 0) == 9) {
                nines++;
                int row = x.fewest(0, 1);
                x.doRow(0, row / 10);
                is("the last turn of " + row, x.turn(0, row % 10), 0);
                x.lay(0, 12345, 31);
            } else {
                x.turn(0, many);
            }
        }
        is("there is one with nine turns", Math.min(nines, 1), 1);
    }

    private static void leastWork() {
        about("Promise 10");
        TurnTops x = laid(PLAIN, 3, 0, 132, 0);
        is("2 + 3 + 2", x.leastWork(0), 7);
        x.lay(0, 123, 0);
        is("sorted", x.leastWork(0), 0);
        is("no such stack", x.leastWork(1), INVALID);
        for (int never : NEVER) {
            is("stack " + never, x.leastWork(never), INVALID);
        }
        is("3 + 2 + 3, glued", laid(GLUED, 3, 0, 132, 0).leastWork(0), 8);
        is("no row", laid(WEAK, 3, 3, 321, 0).leastWork(0), NOT_FOUND);
        is("ten turns and more", laid(BURNT, 5, 0, 12345, 31).leastWork(0), 29);
        is("a row of more turns has less work", laid(BURNT, 3, 0, 123, 7).leastWork(0), 13);
        is("which has 6 turns and 15 work", laid(BURNT, 3, 0, 123, 7).fewest(0, 1), 232323);
    }

    private static void ways() {
        about("Promise 11");
        TurnTops x = laid(PLAIN, 3, 0, 312, 0);
        int[] due = {0, 0, 1, 3};
        for (int turns = 0; turns < due.length; turns++) {
            is("turns " + turns, x.ways(0, turns), due[turns]);
        }
        is("turns 6", x.ways(0, 6), INVALID);
        is("no such stack", x.ways(1, 0), INVALID);
        for (int never : NEVER) {
            is("turns " + never, x.ways(0, never), INVALID);
            is("stack " + never, x.ways(never, 0), INVALID);
        }
        x.lay(0, 123, 0);
        is("none are needed", x.ways(0, 0), 1);
        is("the turn of 1", x.ways(0, 1), 1);
        is("11, 22, 33", x.ways(0, 2), 3);
        TurnTops burnt = kitchen(BURNT, 1, 0);
        is("an odd row", burnt.ways(0, 5), 0);
        is("an even row", burnt.ways(0, 4), 1);
        TurnTops glued = kitchen(GLUED, 3, 0);
        is("glued, sorted", glued.ways(0, 0), 1);
        is("glued, sorted, no turn is possible", glued.ways(0, 1), 0);
        is("weak, only the turn of 1 is light", kitchen(WEAK, 3, 2).ways(0, 2), 1);
        is("weak, 11 and 22", kitchen(WEAK, 3, 3).ways(0, 2), 2);
    }

    private static void lookedAt() {
        about("Promise 12");
        TurnTops x = laid(PLAIN, 3, 0, 312, 0);
        int[] due = {0, 0, 3, 9};
        for (int turns = 0; turns < due.length; turns++) {
            is("turns " + turns, x.lookedAt(0, turns), due[turns]);
        }
        is("turns 7", x.lookedAt(0, 7), INVALID);
        is("no such stack", x.lookedAt(1, 0), INVALID);
        for (int never : NEVER) {
            is("turns " + never, x.lookedAt(0, never), INVALID);
            is("stack " + never, x.lookedAt(never, 0), INVALID);
        }
        x.lay(0, 123, 0);
        for (int turns = 0; turns <= 6; turns++) {
            is("sorted, turns " + turns, x.lookedAt(0, turns), 1);
        }
        // rows "", 1, 2, 12: not 11, which stays at 1 gap
        is("no turn comes twice at once", laid(PLAIN, 2, 0, 21, 0).lookedAt(0, 3), 4);
        TurnTops glued = laid(GLUED, 3, 0, 312, 0);
        // 3 12: rows "", 1, 3, 13, 32, 132; behind 31 it would be 213 still, but the turn of 1 is not possible
        is("glued", glued.lookedAt(0, 3), 6);
        TurnTops burnt = laid(BURNT, 1, 0, 1, 1);
        is("burnt, too few", burnt.lookedAt(0, 0), 0);
        is("burnt", burnt.lookedAt(0, 6), 2);
        is("weak, no turn is possible", laid(WEAK, 2, 1, 21, 0).lookedAt(0, 6), 1);
    }

    private static void simple() {
        about("Promise 13");
        simpleIs(kitchen(PLAIN, 4, 0), 0, 0, 1);
        simpleIs(laid(PLAIN, 3, 0, 312, 0), 2, 5, 1);
        simpleIs(laid(PLAIN, 3, 0, 132, 0), 3, 7, 1);
        simpleIs(laid(GLUED, 3, 0, 132, 0), 3, 7, 0);
        simpleIs(laid(GLUED, 3, 0, 312, 0), 2, 5, 1);
        // 2 is at its place, burnt: 2 (2 good on the top, 1 burnt), 1 (2 burnt), 2 (1 good, 2 good)
        simpleIs(laid(BURNT, 2, 0, 12, 2), 3, 5, 1);
        // 2 is on the top, good: 1, then 2 (1 burnt on the top), 1
        simpleIs(laid(BURNT, 2, 0, 21, 0), 3, 4, 1);
        simpleIs(laid(BURNT, 2, 0, 21, 1), 2, 3, 1);
        simpleIs(laid(WEAK, 2, 2, 21, 1), 2, 3, 0);
        simpleIs(laid(WEAK, 2, 3, 21, 1), 2, 3, 1);
        simpleIs(laid(WEAK, 1, 1, 1, 1), 1, 1, 1);
        TurnTops x = kitchen(PLAIN, 4, 0);
        is("what 3", x.simple(0, 3), INVALID);
        is("no such stack", x.simple(1, 0), INVALID);
        for (int never : NEVER) {
            is("what " + never, x.simple(0, never), INVALID);
            is("stack " + never, x.simple(never, 0), INVALID);
        }
    }

    private static void simpleIs(TurnTops x, int turns, int work, int possible) {
        String of = " of " + x.stackOf(0, 3) + " with the sides " + x.stackOf(0, 4);
        is("turns" + of, x.simple(0, 0), turns);
        is("work" + of, x.simple(0, 1), work);
        is("possible" + of, x.simple(0, 2), possible);
    }

    private static void bestTurn() {
        about("Promise 14");
        is("3", laid(PLAIN, 3, 0, 312, 0).bestTurn(0), 3);
        is("the least one of several", laid(PLAIN, 3, 0, 132, 0).bestTurn(0), 1);
        is("of a sorted one", kitchen(PLAIN, 3, 0).bestTurn(0), 1);
        is("glued and sorted", kitchen(GLUED, 3, 0).bestTurn(0), NOT_FOUND);
        is("glued", laid(GLUED, 3, 0, 213, 0).bestTurn(0), 2);
        is("the better one is too heavy", laid(WEAK, 3, 5, 321, 7).bestTurn(0), 1);
        is("the better one is light", laid(WEAK, 3, 6, 321, 7).bestTurn(0), 3);
        is("none is light", laid(WEAK, 3, 2, 312, 0).bestTurn(0), NOT_FOUND);
        TurnTops x = kitchen(PLAIN, 3, 0);
        is("no such stack", x.bestTurn(1), INVALID);
        for (int never : NEVER) {
            is("stack " + never, x.bestTurn(never), INVALID);
        }
    }

    private static void ranked() {
        about("Promise 15");
        TurnTops x = laid(BURNT, 2, 0, 21, 3);
        is("code 0", x.ranked(0, 0, 0), 12);
        is("sides 0", x.ranked(0, 0, 1), 0);
        is("code 3", x.ranked(0, 3, 0), 12);
        is("sides 3", x.ranked(0, 3, 1), 3);
        is("code 4", x.ranked(0, 4, 0), 21);
        is("sides 4", x.ranked(0, 4, 1), 0);
        is("code 7", x.ranked(0, 7, 0), 21);
        is("8", x.ranked(0, 8, 0), NOT_FOUND);
        is("8", x.ranked(0, 8, 1), NOT_FOUND);
        is("the greatest", x.ranked(0, Integer.MAX_VALUE, 1), NOT_FOUND);
        is("what 2, too great a rank", x.ranked(0, 8, 2), INVALID);
        is("rank -1", x.ranked(0, -1, 0), INVALID);
        is("no such stack", x.ranked(1, 0, 0), INVALID);
        for (int never : NEVER) {
            is("what " + never, x.ranked(0, 0, never), INVALID);
            is("stack " + never, x.ranked(never, 0, 0), INVALID);
        }
        is("the last of 6", kitchen(GLUED, 6, 0).ranked(0, 719, 0), 654321);
        is("behind it", kitchen(GLUED, 6, 0).ranked(0, 720, 0), NOT_FOUND);
        is("plain sides", kitchen(PLAIN, 6, 0).ranked(0, 719, 1), 0);
        is("the last of 5", kitchen(WEAK, 5, 1).ranked(0, 3839, 0), 54321);
        is("its sides", kitchen(WEAK, 5, 1).ranked(0, 3839, 1), 31);
        is("behind it", kitchen(WEAK, 5, 1).ranked(0, 3840, 1), NOT_FOUND);
    }

    private static void ofDistance() {
        about("Promise 16");
        distancesAre(laid(PLAIN, 3, 0, 312, 0), 1, 2, 2, 1, 0);
        distancesAre(kitchen(PLAIN, 1, 0), 1, 0);
        distancesAre(kitchen(BURNT, 1, 0), 1, 1, 0);
        // of 3 glued ones: 123; 321 and 213; 231 and 312; 132
        distancesAre(kitchen(GLUED, 3, 0), 1, 2, 2, 1, 0);
        // only the 1 can be turned
        distancesAre(kitchen(WEAK, 3, 2), 1, 1, 0);
        distancesAre(kitchen(BURNT, 2, 0), 1, 2, 2, 2, 1, 0);
        is("ten turns", kitchen(BURNT, 5, 0).ofDistance(0, 10), 4);
        TurnTops x = kitchen(PLAIN, 3, 0);
        is("turns 12", x.ofDistance(0, 12), 0);
        is("turns 13", x.ofDistance(0, 13), INVALID);
        is("no such stack", x.ofDistance(1, 0), INVALID);
        for (int never : NEVER) {
            is("turns " + never, x.ofDistance(0, never), INVALID);
            is("stack " + never, x.ofDistance(never, 0), INVALID);
        }
    }

    private static void distancesAre(TurnTops x, int... due) {
        for (int turns = 0; turns < due.length; turns++) {
            is("stacks with " + turns + " turns", x.ofDistance(0, turns), due[turns]);
        }
    }

    private static void count() {
        about("Promise 17");
        TurnTops x = laid(PLAIN, 3, 0, 312, 0);
        x.stack(BURNT, 2, 0);
        x.turn(1, 2);
        x.doRow(0, 23);
        x.turn(1, 2);
        write(x, "A1");
        int[] due = {2, 1, 2, 1, 2, 1, 1, 4, 2, 3, 4, 4, 2};
        for (int what = 0; what < due.length; what++) {
            is("what " + what, x.count(what), due[what]);
        }
        is("what 13", x.count(13), INVALID);
        for (int never : NEVER) {
            is("what " + never, x.count(never), INVALID);
        }
    }

    private static void undo() {
        about("Promise 18");
        TurnTops x = kitchen(PLAIN, 3, 0);
        for (int code : new int[] {132, 213, 231, 312, 321}) {
            x.lay(0, code, 0);
        }
        is("states", x.count(11), 4);
        int[] codes = {312, 231, 213, 132};
        for (int i = 0; i < 4; i++) {
            is("undo", x.undo(), 3 - i);
            is("code", x.stackOf(0, 3), codes[i]);
        }
        is("the oldest ones are dropped", x.undo(), IMPOSSIBLE);
        is("code", x.stackOf(0, 3), 132);
        x.turn(0, 3);
        is("a change behind undo", x.undo(), 0);
        is("code", x.stackOf(0, 3), 132);
        TurnTops y = kitchen(PLAIN, 3, 0);
        is("the stack is away", y.undo(), 0);
        is("stacks", y.count(0), 0);
        is("no such stack", y.turn(0, 1), INVALID);
        is("another one, sorted", y.stack(BURNT, 2, 0), 0);
        is("its kind", y.stackOf(0, 0), BURNT);
    }

    private static void undoRestoresAllButTheText() {
        about("Promise 18");
        TurnTops x = laid(BURNT, 3, 0, 312, 1);
        x.turn(0, 2);
        write(x, "A32;");
        is("play", x.play(), 2);
        is("hand", x.count(3), 0);
        is("undo", x.undo(), 3);
        int[] due = {1, 0, 3, 1, 1, 0, 0, 2, 0, 0, 1, 3, 4};
        for (int what = 0; what < due.length; what++) {
            is("count " + what, x.count(what), due[what]);
        }
        is("turns of it", x.stackOf(0, 9), 1);
        is("code", x.stackOf(0, 3), 132);
        is("sides", x.stackOf(0, 4), 1);
        is("the text can be played again", x.play(), 2);
    }

    private static void type() {
        about("Promise 19");
        TurnTops x = new TurnTops();
        is("31", x.type(31), INVALID);
        is("127", x.type(127), INVALID);
        is("32", x.type(32), 1);
        is("126", x.type(126), 2);
        for (int never : new int[] {Integer.MIN_VALUE, -1, 0, 128, 65 + 256, Integer.MAX_VALUE}) {
            is("character " + never, x.type(never), INVALID);
        }
        for (int length = 3; length <= 50; length++) {
            is("length", x.type('A'), length);
        }
        is("the 51st", x.type('A'), LIMIT);
        is("a wrong 51st", x.type(127), INVALID);
        is("length", x.count(12), 50);
        is("it is no change", x.count(11), 0);
    }

    private static void clearText() {
        about("Promise 20");
        TurnTops x = kitchen(PLAIN, 2, 0);
        is("empty", x.clearText(), 0);
        write(x, "A2;");
        is("three", x.clearText(), 3);
        is("length", x.count(12), 0);
        is("no fault", x.fault(0), NOT_FOUND);
        is("play", x.play(), 0);
        write(x, "A1;");
        is("what was typed before is away", x.play(), 1);
        is("code", x.stackOf(0, 3), 12);
    }

    private static void fault() {
        about("Promise 21");
        TurnTops x = kitchen(PLAIN, 3, 0);
        faultIs(x, "", NOT_FOUND, NOT_FOUND);
        faultIs(x, "A123;", NOT_FOUND, NOT_FOUND);
        faultIs(x, "A1;A2;A3;", NOT_FOUND, NOT_FOUND);
        faultIs(x, "A", 1, 1);
        faultIs(x, "A1", 2, 1);
        faultIs(x, "A;", 1, 1);
        faultIs(x, "A1;;", 3, 1);
        faultIs(x, "A1;2;", 3, 1);
        faultIs(x, "A1A2;", 2, 1);
        faultIs(x, "AA", 1, 1);
        faultIs(x, " A1;", 0, 1);
        faultIs(x, "A1 ;", 2, 1);
        faultIs(x, ";", 0, 1);
        faultIs(x, "1", 0, 1);
        faultIs(x, "F1;", 0, 1);
        faultIs(x, "@1;", 0, 1);
        faultIs(x, "a1;", 0, 1);
        faultIs(x, "A1:", 2, 1);
        faultIs(x, "A1/", 2, 1);
        faultIs(x, "B1;", 0, 2);
        faultIs(x, "E", 0, 2);
        faultIs(x, "A1;B", 3, 2);
        faultIs(x, "A0;", 1, 3);
        faultIs(x, "A4;", 1, 3);
        faultIs(x, "A129x", 3, 3);
        is("what 2", x.fault(2), INVALID);
        for (int never : NEVER) {
            is("what " + never, x.fault(never), INVALID);
        }
        is("nothing was turned", x.count(10), 0);
        is("it is no change", x.count(11), 1);
    }

    private static void faultIs(TurnTops x, String text, int position, int reason) {
        x.clearText();
        write(x, text);
        is("position in \"" + text + "\"", x.fault(0), position);
        is("reason in \"" + text + "\"", x.fault(1), reason);
        is("play of \"" + text + "\"", position == NOT_FOUND || x.play() == IMPOSSIBLE ? 1 : 0, 1);
    }

    private static void faultBehindTurns() {
        about("Promise 21");
        TurnTops x = laid(WEAK, 3, 4, 312, 0);
        x.stack(GLUED, 3, 0);
        x.lay(1, 312, 0);
        faultIs(x, "A3;", 1, 3);
        faultIs(x, "A2;", NOT_FOUND, NOT_FOUND);
        faultIs(x, "A23;", 2, 3);
        faultIs(x, "B32;", NOT_FOUND, NOT_FOUND);
        faultIs(x, "B322;", 3, 3);
        faultIs(x, "B3;A2;B2;A12;B1;", 14, 3);
        faultIs(x, "C1;", 0, 2);
    }

    private static void play() {
        about("Promise 22");
        TurnTops x = laid(PLAIN, 3, 0, 312, 0);
        x.stack(BURNT, 2, 0);
        write(x, "A3;B12;A2;");
        is("turns", x.play(), 4);
        is("A", x.stackOf(0, 3), 123);
        is("B", x.stackOf(1, 3), 21);
        is("sides of B", x.stackOf(1, 4), 1);
        is("hand", x.count(3), 1);
        is("turns of the hands", x.count(4) * 100 + x.count(5) * 10 + x.count(6), 211);
        is("work of the hands", x.count(7) * 100 + x.count(8) * 10 + x.count(9), 512);
        is("turns of A", x.stackOf(0, 9), 2);
        is("the text stays", x.count(12), 10);
        is("one change", x.count(11), 4);
        is("undo", x.undo(), 3);
        is("all of it", x.stackOf(0, 3) * 100 + x.stackOf(1, 3), 31212);
        write(x, "C");
        is("a fault", x.play(), IMPOSSIBLE);
        is("none of it", x.stackOf(0, 3) * 100 + x.stackOf(1, 3), 31212);
        is("no change", x.count(11), 3);
        x.clearText();
        is("no turns", x.play(), 0);
        is("are one change, too", x.count(11), 4);
        TurnTops full = kitchen(PLAIN, 1, 0);
        write(full, "A" + "1".repeat(48) + ";");
        is("48 turns", full.play(), 48);
        is("work", full.count(7), 16);
    }

    private static void errorsChangeNothing() {
        about("Changes and errors");
        TurnTops x = laid(GLUED, 3, 0, 213, 0);
        x.turn(0, 3);
        x.turn(0, 4);
        x.doRow(0, 22);
        x.lay(0, 222, 0);
        x.stack(9, 9, 9);
        write(x, "A1;");
        x.play();
        x.type(200);
        int[] due = {1, 0, 1, 0, 0, 0, 0, 0, 0, 0, 0, 2, 3};
        for (int what = 0; what < due.length; what++) {
            is("count " + what, x.count(what), due[what]);
        }
        is("code", x.stackOf(0, 3), 213);
    }
}
