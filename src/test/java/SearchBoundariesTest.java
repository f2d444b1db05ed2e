/**
 * Each sentence on rows of turns and on stacks by their place that names a boundary case, by a test of its own: of the
 * term "Rows of turns", and of the promises 9 to 16.
 */
public final class SearchBoundariesTest extends Checks {
    public static void main(String[] args) {
        termsOfRows();
        termsOfTheSimpleWay();
        fewest();
        leastWork();
        ways();
        lookedAt();
        simple();
        bestTurn();
        ranked();
        ofDistance();
        end();
    }

    // ---- the term "Rows of turns"

    private static void termsOfRows() {
        rowOfDigits();
        rowSortsInTime();
        rowSortsIfPossible();
        firstRowIsTheLeast();
        workIsTheSum();
    }

    private static void rowOfDigits() {
        sentence("Rows of turns", "a number whose decimal digits are the turns, the first one first");
        TurnTops x = laid(PLAIN, 3, 0, 312, 0);
        is("3, then 2", x.doRow(0, 32), 0);
        x.undo();
        is("2, then 3", x.doRow(0, 23), 2);
        lies(x, 0, 231, 0);
    }

    private static void rowSortsInTime() {
        sentence("Rows of turns", "and the stack is sorted behind the last one");
        TurnTops x = laid(PLAIN, 2, 0, 21, 0);
        is("sorted on the way as well: 222 sorts, 22 does not", x.ways(0, 3), 4);
        is("22 does not: just 12 and 21", x.ways(0, 2), 2);
        is("sorted, 22 and 11", kitchen(PLAIN, 2, 0).ways(0, 2), 2);
    }

    private static void rowSortsIfPossible() {
        sentence("Rows of turns", "A row sorts a stack if all its turns are possible one after the other");
        is("plain", laid(PLAIN, 3, 0, 132, 0).fewest(0, 1), 232);
        is("glued: the turn of 2 is not possible at first", laid(GLUED, 3, 0, 132, 0).fewest(0, 1), 323);
        is("weak: 2 then 1", laid(WEAK, 2, 3, 21, 1).fewest(0, 1), 21);
        is("too weak for 2 1", laid(WEAK, 2, 2, 21, 1).fewest(0, 1), NOT_FOUND);
    }

    private static void firstRowIsTheLeast() {
        sentence("Rows of turns",
            "Of several rows of the same length the first one is the one that is the least as a number.");
        firstRowOf(PLAIN, 0, 1324, 0, 4);
        firstRowOf(PLAIN, 0, 3142, 0, 4);
        firstRowOf(GLUED, 0, 2413, 0, 4);
        firstRowOf(BURNT, 0, 2134, 3, 3);
        firstRowOf(WEAK, 10, 4321, 15, 1);
        firstRowOf(WEAK, 9, 2143, 1, 3);
    }

    /** All rows of four cakes with no more turns are made, the least one first: the first that sorts is due. */
    private static void firstRowOf(int kind, int strength, int code, int sides, int mostTurns) {
        int due = NOT_FOUND;
        int rows = 1;
        for (int turns = 1; turns <= mostTurns && due == NOT_FOUND; turns++) {
            rows *= 4;
            for (int i = 0; i < rows && due == NOT_FOUND; i++) {
                TurnTops x = laid(kind, 4, strength, code, sides);
                int row = Integer.parseInt(Integer.toString(rows + i, 4).substring(1)) + repeatedOnes(turns);
                due = x.doRow(0, row) == 0 ? row : NOT_FOUND;
            }
        }
        if (due != NOT_FOUND) {
            is("first row of " + code, laid(kind, 4, strength, code, sides).fewest(0, 1), due);
        } else {
            isTrue("more turns for " + code, laid(kind, 4, strength, code, sides).fewest(0, 0) > mostTurns
                || laid(kind, 4, strength, code, sides).fewest(0, 0) == NOT_FOUND);
        }
    }

    private static int repeatedOnes(int digits) {
        int ones = 0;
        for (int i = 0; i < digits; i++) {
            ones = ones * 10 + 1;
        }
        return ones;
    }

    private static void workIsTheSum() {
        sentence("Rows of turns", "The work of a row is the sum of its turns.");
        is("of no turn", kitchen(PLAIN, 6, 0).leastWork(0), 0);
        is("of one turn", laid(PLAIN, 6, 0, 654321, 0).leastWork(0), 6);
        is("of 1 alone", laid(BURNT, 5, 0, 12345, 1).leastWork(0), 1);
        is("2 + 3 + 2 of 132", laid(PLAIN, 3, 0, 132, 0).leastWork(0), 7);
    }

    private static void termsOfTheSimpleWay() {
        simpleWhenSorted();
        simpleGreatestFirst();
        simpleToTheTop();
        simpleAtItsPlaceBurnt();
        simpleTurnOfOne();
        simpleToItsPlace();
        simpleThoughNotPossible();
    }

    private static void simpleIs(TurnTops x, int turns, int work, int possible) {
        String of = " of " + x.stackOf(0, 3) + " with the sides " + x.stackOf(0, 4);
        is("turns" + of, x.simple(0, 0), turns);
        is("work" + of, x.simple(0, 1), work);
        is("possible" + of, x.simple(0, 2), possible);
    }

    private static void simpleWhenSorted() {
        sentence("Rows of turns", "as long as the stack is not sorted");
        simpleIs(kitchen(PLAIN, 6, 0), 0, 0, 1);
        simpleIs(kitchen(BURNT, 1, 0), 0, 0, 1);
        simpleIs(kitchen(GLUED, 6, 0), 0, 0, 1);
        simpleIs(kitchen(WEAK, 5, 1), 0, 0, 1);
    }

    private static void simpleGreatestFirst() {
        sentence("Rows of turns", "the greatest cake that is not at its place with its good side above is looked at");
        // 3 is at its place: 2 goes from the top to its own
        simpleIs(laid(PLAIN, 3, 0, 213, 0), 1, 2, 1);
        // 3 is not: 2 to the top, 3 to its place, 2 from the top to its own: 312, 213, 123
        simpleIs(laid(PLAIN, 3, 0, 132, 0), 3, 2 + 3 + 2, 1);
        // 5 is at its place with the good side above, 1 on the top shows the burnt one
        simpleIs(laid(BURNT, 5, 0, 12345, 1), 1, 1, 1);
    }

    private static void simpleToTheTop() {
        sentence("Rows of turns",
            "if it is not on the top, and not at its place, the turn that brings it to the top is made");
        // right below the top: 2 (321), 3
        simpleIs(laid(PLAIN, 3, 0, 231, 0), 2, 2 + 3, 1);
        // right above its place: 5 (654321), 6
        simpleIs(laid(PLAIN, 6, 0, 234561, 0), 2, 5 + 6, 1);
        // right above its place: 4 (53214), 5 (41235), then 4 from the top (32145), then 3
        simpleIs(laid(PLAIN, 5, 0, 12354, 0), 4, 4 + 5 + 4 + 3, 1);
    }

    private static void simpleAtItsPlaceBurnt() {
        sentence("Rows of turns",
            "if it is at its place (with its burnt side above), the turn of all cakes down to it is made");
        // the least cake is on the top as well
        simpleIs(laid(BURNT, 1, 0, 1, 1), 1, 1, 1);
        simpleIs(laid(BURNT, 5, 0, 12345, 1), 1, 1, 1);
        // 2 at the bottom: 2 (2 good above, 1 burnt), 1, 2
        simpleIs(laid(BURNT, 2, 0, 12, 2), 3, 2 + 1 + 2, 1);
        simpleIs(laid(WEAK, 2, 3, 12, 2), 3, 2 + 1 + 2, 1);
    }

    private static void simpleTurnOfOne() {
        sentence("Rows of turns",
            "if it is on the top, and shows the good side above, in burnt and weak stacks the turn of 1 is made");
        // 1 (2 burnt), 2 (1 burnt), 1
        simpleIs(laid(BURNT, 2, 0, 21, 0), 3, 1 + 2 + 1, 1);
        simpleIs(laid(WEAK, 2, 3, 21, 0), 3, 1 + 2 + 1, 1);
        // not in plain and glued ones
        simpleIs(laid(PLAIN, 2, 0, 21, 0), 1, 2, 1);
        simpleIs(laid(GLUED, 2, 0, 21, 0), 1, 2, 1);
    }

    private static void simpleToItsPlace() {
        sentence("Rows of turns",
            "otherwise the turn that brings it from the top to its place .. (Its place is that of its size less 1.)");
        simpleIs(laid(PLAIN, 6, 0, 654321, 0), 1, 6, 1);
        simpleIs(laid(PLAIN, 6, 0, 213456, 0), 1, 2, 1);
        // burnt on the top: 2 (1 burnt), 1
        simpleIs(laid(BURNT, 2, 0, 21, 1), 2, 2 + 1, 1);
        simpleIs(laid(BURNT, 5, 0, 54321, 31), 1, 5, 1);
    }

    private static void simpleThoughNotPossible() {
        sentence("Rows of turns", "Whether these turns are possible is not asked.");
        // glued: the first turn, of 2, is not possible
        simpleIs(laid(GLUED, 3, 0, 132, 0), 3, 2 + 3 + 2, 0);
        // glued: 4 is (1324), 2 is not, then 3 (2134), 2
        simpleIs(laid(GLUED, 4, 0, 4231, 0), 4, 4 + 2 + 3 + 2, 0);
        // weak: the first one is too heavy by 1, and is not
        simpleIs(laid(WEAK, 5, 14, 54321, 31), 1, 5, 0);
        simpleIs(laid(WEAK, 5, 15, 54321, 31), 1, 5, 1);
    }

    // ---- promise 9

    private static void fewest() {
        stackNumbers("Promise 9", (x, stack) -> x.fewest(stack, 0));
        fewestWhat();
        fewestOfSorted();
        fewestNine();
        fewestTen();
        fewestNone();
    }

    private static void fewestWhat() {
        sentence("Promise 9", "what: 0: how many turns it has; 1: the first such row");
        range(() -> laid(PLAIN, 3, 0, 132, 0), 0, 1, (x, what) -> x.fewest(0, what));
        is("turns", laid(PLAIN, 3, 0, 132, 0).fewest(0, 0), 3);
        is("row", laid(PLAIN, 3, 0, 132, 0).fewest(0, 1), 232);
        is("one turn", laid(PLAIN, 6, 0, 654321, 0).fewest(0, 0), 1);
        is("its row", laid(PLAIN, 6, 0, 654321, 0).fewest(0, 1), 6);
    }

    private static void fewestOfSorted() {
        sentence("Promise 9", "0 if it has none");
        for (TurnTops x : new TurnTops[] {kitchen(PLAIN, 6, 0), kitchen(BURNT, 1, 0), kitchen(GLUED, 6, 0),
            kitchen(WEAK, 5, 1)}) {
            is("turns", x.fewest(0, 0), 0);
            is("row", x.fewest(0, 1), 0);
        }
    }

    private static void fewestNine() {
        sentence("Promise 9", "NOT_FOUND if no row of at most 9 turns sorts it", "one of just 9 does");
        TurnTops x = laid(BURNT, 5, 0, 54321, 0);
        is("turns", x.fewest(0, 0), 9);
        is("row", x.fewest(0, 1), 454545454);
        isTrue("8 turns", x.doRow(0, 45454545) > 0);
        is("and the ninth", x.turn(0, 4), 0);
        TurnTops weak = laid(WEAK, 5, 15, 54321, 0);
        is("weak", weak.fewest(0, 1), 454545454);
    }

    private static void fewestTen() {
        sentence("Promise 9", "NOT_FOUND if no row of at most 9 turns sorts it", "one of 10 does");
        for (int[] far : new int[][] {{12345, 30}, {12345, 31}, {21345, 28}, {32145, 24}}) {
            TurnTops x = laid(BURNT, 5, 0, far[0], far[1]);
            is("turns", x.fewest(0, 0), NOT_FOUND);
            is("row", x.fewest(0, 1), NOT_FOUND);
            is("weak", laid(WEAK, 5, 21, far[0], far[1]).fewest(0, 0), NOT_FOUND);
        }
    }

    private static void fewestNone() {
        sentence("Promise 9", "NOT_FOUND if no row of at most 9 turns sorts it", "no row at all does");
        TurnTops x = laid(WEAK, 2, 1, 21, 0);
        is("turns", x.fewest(0, 0), NOT_FOUND);
        is("row", x.fewest(0, 1), NOT_FOUND);
        is("turns of 1 alone are possible, again and again", laid(WEAK, 2, 2, 21, 0).fewest(0, 0), NOT_FOUND);
    }

    // ---- promise 10

    private static void leastWork() {
        stackNumbers("Promise 10", (x, stack) -> x.leastWork(stack));
        leastWorkOfSorted();
        leastWorkNone();
        leastWorkOfManyTurns();
        leastWorkOfMoreTurns();
    }

    private static void leastWorkOfSorted() {
        sentence("Promise 10", "Returns its work, 0 if it is sorted");
        is("plain", kitchen(PLAIN, 6, 0).leastWork(0), 0);
        is("burnt", kitchen(BURNT, 1, 0).leastWork(0), 0);
        is("glued", kitchen(GLUED, 6, 0).leastWork(0), 0);
        is("weak", kitchen(WEAK, 5, 1).leastWork(0), 0);
        is("the least that is not 0", laid(BURNT, 1, 0, 1, 1).leastWork(0), 1);
    }

    private static void leastWorkNone() {
        sentence("Promise 10", "NOT_FOUND if no row sorts it");
        is("no turn is possible", laid(WEAK, 2, 1, 21, 0).leastWork(0), NOT_FOUND);
        is("only the turn of 1 is", laid(WEAK, 2, 2, 21, 0).leastWork(0), NOT_FOUND);
        is("all are", laid(WEAK, 2, 3, 21, 0).leastWork(0), 4);
        is("the turn of 5 is too heavy by 1", laid(WEAK, 5, 14, 54321, 31).leastWork(0), NOT_FOUND);
        is("it is not", laid(WEAK, 5, 15, 54321, 31).leastWork(0), 5);
    }

    private static void leastWorkOfManyTurns() {
        sentence("Promise 10", "NOT_FOUND if no row sorts it", "one of more than 9 turns does");
        is("at least 10 turns", laid(BURNT, 5, 0, 12345, 31).leastWork(0), 29);
        is("at least 10 turns", laid(WEAK, 5, 15, 12345, 30).leastWork(0), 28);
    }

    private static void leastWorkOfMoreTurns() {
        sentence("Promise 10", "Finds the row of turns with the least work that sorts a stack.");
        TurnTops x = laid(BURNT, 3, 0, 123, 7);
        is("six turns have 15", x.fewest(0, 1), 232323);
        is("more turns have less", x.leastWork(0), 13);
    }

    // ---- promise 11

    private static void ways() {
        stackNumbers("Promise 11", (x, stack) -> x.ways(stack, 0));
        waysTurns();
        waysOfNoTurn();
        waysOfFiveTurns();
        waysNotPossible();
    }

    private static void waysTurns() {
        sentence("Promise 11", "turns: 0 to 5");
        range(() -> laid(PLAIN, 3, 0, 132, 0), 0, 5, (x, turns) -> x.ways(0, turns));
        range(() -> kitchen(GLUED, 1, 0), 0, 5, (x, turns) -> x.ways(0, turns));
    }

    private static void waysOfNoTurn() {
        sentence("Promise 11", "Counts the rows of some turns that sort a stack.", "of 0 turns");
        is("sorted", kitchen(PLAIN, 6, 0).ways(0, 0), 1);
        is("sorted, no turn is possible", kitchen(GLUED, 6, 0).ways(0, 0), 1);
        is("not sorted", laid(PLAIN, 6, 0, 213456, 0).ways(0, 0), 0);
        is("not sorted, burnt", laid(BURNT, 1, 0, 1, 1).ways(0, 0), 0);
    }

    private static void waysOfFiveTurns() {
        sentence("Promise 11", "Counts the rows of some turns that sort a stack.", "of 5 turns");
        // of the 32 rows of 1 and 2, those with an odd (21) or even (12) number of 2
        is("21", laid(PLAIN, 2, 0, 21, 0).ways(0, 5), 16);
        is("12", kitchen(PLAIN, 2, 0).ways(0, 5), 16);
        is("one cake", kitchen(PLAIN, 1, 0).ways(0, 5), 1);
        is("one burnt cake", laid(BURNT, 1, 0, 1, 1).ways(0, 5), 1);
        is("one burnt cake, sorted", kitchen(BURNT, 1, 0).ways(0, 5), 0);
        is("31524, as far as 5 turns", laid(PLAIN, 5, 0, 31524, 0).ways(0, 5), 2);
        is("246135, as far as 6 turns", laid(PLAIN, 6, 0, 246135, 0).ways(0, 5), 0);
    }

    private static void waysNotPossible() {
        sentence("Promise 11", "Counts the rows of some turns that sort a stack.", "turns that are not possible");
        is("glued, sorted", kitchen(GLUED, 6, 0).ways(0, 1), 0);
        is("glued, 654321", laid(GLUED, 6, 0, 654321, 0).ways(0, 1), 1);
        is("glued, nothing goes on from there", laid(GLUED, 6, 0, 654321, 0).ways(0, 2), 0);
        is("weak, 1 1 alone", kitchen(WEAK, 5, 2).ways(0, 2), 1);
        is("weak, 1 1 and 2 2", kitchen(WEAK, 5, 3).ways(0, 2), 2);
    }

    // ---- promise 12

    private static void lookedAt() {
        stackNumbers("Promise 12", (x, stack) -> x.lookedAt(stack, 3));
        lookedAtTurns();
        lookedAtTheBeginning();
        lookedAtBehindEachTurn();
        lookedAtNoTurnTwice();
        lookedAtPossibleTurns();
        lookedAtSorted();
        lookedAtNoneGoesOn();
    }

    private static void lookedAtTurns() {
        sentence("Promise 12", "turns: 0 to 6");
        range(() -> laid(PLAIN, 3, 0, 132, 0), 0, 6, (x, turns) -> x.lookedAt(0, turns));
        is("0, not sorted", laid(PLAIN, 3, 0, 132, 0).lookedAt(0, 0), 0);
        is("6, as many gaps", laid(PLAIN, 6, 0, 246135, 0).lookedAt(0, 6), 19);
    }

    private static void lookedAtTheBeginning() {
        sentence("Promise 12",
            "and at the beginning, the turns made so far and the gaps are together at most that many");
        is("5 gaps, 4 turns", laid(BURNT, 5, 0, 12345, 31).lookedAt(0, 4), 0);
        // no turn takes away a gap: just the row without turns
        is("5 gaps, 5 turns", laid(BURNT, 5, 0, 12345, 31).lookedAt(0, 5), 1);
        is("2 gaps, 1 turn", laid(PLAIN, 3, 0, 312, 0).lookedAt(0, 1), 0);
        // "", 3 and 32
        is("2 gaps, 2 turns", laid(PLAIN, 3, 0, 312, 0).lookedAt(0, 2), 3);
    }

    private static void lookedAtBehindEachTurn() {
        sentence("Promise 12",
            "behind each of their turns .. the turns made so far and the gaps are together at most that many");
        // the turn of 1 leaves 1 gap behind 1 turn, that of 2 none
        is("21, 1 turn", laid(PLAIN, 2, 0, 21, 0).lookedAt(0, 1), 2);
        is("21, 2 turns: 1 and 12, too", laid(PLAIN, 2, 0, 21, 0).lookedAt(0, 2), 4);
        // the turn of 2 leaves 2 gaps behind 1 turn
        is("12, 1 burnt, 2 turns", laid(BURNT, 2, 0, 12, 1).lookedAt(0, 2), 2);
        is("12, 1 burnt, 3 turns", laid(BURNT, 2, 0, 12, 1).lookedAt(0, 3), 3);
    }

    private static void lookedAtNoTurnTwice() {
        sentence("Promise 12", "no turn the same as the one right before it");
        // not 11, nor 112
        is("21, 3 turns", laid(PLAIN, 2, 0, 21, 0).lookedAt(0, 3), 4);
        is("21, 6 turns", laid(PLAIN, 2, 0, 21, 0).lookedAt(0, 6), 4);
        is("weak, only the turn of 1", laid(WEAK, 2, 2, 21, 0).lookedAt(0, 6), 2);
    }

    private static void lookedAtPossibleTurns() {
        sentence("Promise 12", "all possible one after the other");
        is("weak, none is possible", laid(WEAK, 2, 1, 21, 0).lookedAt(0, 2), 1);
        is("weak, the turn of 2 is too heavy", laid(WEAK, 2, 2, 12, 1).lookedAt(0, 3), 2);
        is("weak, it is not", laid(WEAK, 2, 3, 12, 1).lookedAt(0, 3), 3);
        is("glued, only the turn of 6", laid(GLUED, 6, 0, 654321, 0).lookedAt(0, 6), 2);
    }

    private static void lookedAtSorted() {
        sentence("Promise 12", "(Of a sorted stack nothing is looked at but the row without turns.)");
        for (TurnTops x : new TurnTops[] {kitchen(PLAIN, 6, 0), kitchen(BURNT, 5, 0), kitchen(GLUED, 1, 0),
            kitchen(WEAK, 5, 21)}) {
            for (int turns = 0; turns <= 6; turns++) {
                is("turns " + turns, x.lookedAt(0, turns), 1);
            }
        }
    }

    private static void lookedAtNoneGoesOn() {
        sentence("Promise 12", "A row behind which the stack is sorted is counted, and none that goes on from it.");
        // "" and 1, not 1 1 nor more
        is("one burnt cake", laid(BURNT, 1, 0, 1, 1).lookedAt(0, 6), 2);
        // "", 1, 2 and 12: not 21, though no gap would be behind it
        is("21", laid(PLAIN, 2, 0, 21, 0).lookedAt(0, 6), 4);
    }

    // ---- promise 13

    private static void simple() {
        stackNumbers("Promise 13", (x, stack) -> x.simple(stack, 0));
        simpleWhat();
        simplePossible();
        simpleMostTurns();
    }

    private static void simpleWhat() {
        sentence("Promise 13", "what: 0: how many turns it takes; 1: its work; 2: 1 if all its turns are possible");
        range(() -> laid(PLAIN, 3, 0, 231, 0), 0, 2, (x, what) -> x.simple(0, what));
        is("turns", laid(PLAIN, 3, 0, 231, 0).simple(0, 0), 2);
        is("work", laid(PLAIN, 3, 0, 231, 0).simple(0, 1), 5);
        is("possible", laid(PLAIN, 3, 0, 231, 0).simple(0, 2), 1);
    }

    private static void simplePossible() {
        sentence("Promise 13", "2: 1 if all its turns are possible, otherwise 0");
        is("no turn", kitchen(WEAK, 5, 1).simple(0, 2), 1);
        is("the first is not", laid(GLUED, 3, 0, 132, 0).simple(0, 2), 0);
        is("the second is not", laid(GLUED, 4, 0, 4231, 0).simple(0, 2), 0);
        is("just strong enough", laid(WEAK, 2, 3, 21, 1).simple(0, 2), 1);
        is("too weak by 1", laid(WEAK, 2, 2, 21, 1).simple(0, 2), 0);
    }

    private static void simpleMostTurns() {
        sentence("Promise 13", "0: how many turns it takes; 1: its work", "as many as can be");
        // of each cake 5 to 2 the turn down to it, of 1 and down again; then the turn of 1
        is("turns", laid(BURNT, 5, 0, 12345, 31).simple(0, 0), 13);
        is("work", laid(BURNT, 5, 0, 12345, 31).simple(0, 1), 5 + 1 + 5 + 4 + 1 + 4 + 3 + 1 + 3 + 2 + 1 + 2 + 1);
    }

    // ---- promise 14

    private static void bestTurn() {
        stackNumbers("Promise 14", (x, stack) -> x.bestTurn(stack));
        bestTurnLeast();
        bestTurnGreatest();
        bestTurnPossible();
        bestTurnNone();
    }

    private static void bestTurnLeast() {
        sentence("Promise 14", "of several the least one");
        is("1 leaves no gap, the others leave one", kitchen(PLAIN, 6, 0).bestTurn(0), 1);
        is("all are alike", laid(PLAIN, 3, 0, 132, 0).bestTurn(0), 1);
        is("one cake", kitchen(PLAIN, 1, 0).bestTurn(0), 1);
        is("one burnt cake", kitchen(BURNT, 1, 0).bestTurn(0), 1);
    }

    private static void bestTurnGreatest() {
        sentence("Promise 14", "Finds the turn by which the gaps become fewest");
        is("that of 6", laid(PLAIN, 6, 0, 654321, 0).bestTurn(0), 6);
        is("that of 5", laid(BURNT, 5, 0, 54321, 31).bestTurn(0), 5);
        is("that of 5 of 6", laid(PLAIN, 6, 0, 543216, 0).bestTurn(0), 5);
    }

    private static void bestTurnPossible() {
        sentence("Promise 14", "of those that are possible");
        is("all of 3 and 2 and 1 are light", laid(WEAK, 3, 6, 321, 7).bestTurn(0), 3);
        is("too heavy by 1", laid(WEAK, 3, 5, 321, 7).bestTurn(0), 1);
        is("glued: the turn of 1 is not possible", laid(GLUED, 3, 0, 213, 0).bestTurn(0), 2);
        is("the only one leaves more gaps", kitchen(WEAK, 5, 1).bestTurn(0), 1);
    }

    private static void bestTurnNone() {
        sentence("Promise 14", "NOT_FOUND if none is possible");
        is("glued, sorted", kitchen(GLUED, 6, 0).bestTurn(0), NOT_FOUND);
        is("one glued cake", kitchen(GLUED, 1, 0).bestTurn(0), NOT_FOUND);
        is("weak, too heavy by 1", laid(WEAK, 5, 4, 54321, 0).bestTurn(0), NOT_FOUND);
        is("weak, just light enough", laid(WEAK, 5, 5, 54321, 0).bestTurn(0), 1);
    }

    // ---- promise 15

    private static void ranked() {
        stackNumbers("Promise 15", (x, stack) -> x.ranked(stack, 47, 1));
        rankedRank();
        rankedWhat();
        rankedLast();
        rankedAsItLies();
    }

    private static void rankedRank() {
        sentence("Promise 15", "rank: 0 or more");
        TurnTops x = kitchen(PLAIN, 3, 0);
        is("0", x.ranked(0, 0, 0), 123);
        is("0", x.ranked(0, 0, 1), 0);
        for (int rank : new int[] {-1, -2, -6, -1000001, Integer.MIN_VALUE}) {
            is("rank " + rank, x.ranked(0, rank, 0), INVALID);
            is("rank " + rank, x.ranked(0, rank, 1), INVALID);
        }
    }

    private static void rankedWhat() {
        sentence("Promise 15", "what: 0: the code; 1: the sides");
        range(() -> kitchen(BURNT, 2, 0), 0, 1, (x, what) -> x.ranked(0, 7, what));
        is("code", kitchen(BURNT, 2, 0).ranked(0, 7, 0), 21);
        is("sides", kitchen(BURNT, 2, 0).ranked(0, 7, 1), 3);
        is("code", kitchen(BURNT, 2, 0).ranked(0, 3, 0), 12);
        is("sides", kitchen(BURNT, 2, 0).ranked(0, 4, 1), 0);
    }

    private static void rankedLast() {
        sentence("Promise 15", "NOT_FOUND if there are not so many");
        int[] stacks = {1, 2, 6, 24, 120, 720};
        for (int kind = PLAIN; kind <= WEAK; kind++) {
            boolean sided = kind == BURNT || kind == WEAK;
            for (int cakes = 1; cakes <= (sided ? 5 : 6); cakes++) {
                TurnTops x = kitchen(kind, cakes, kind == WEAK ? 1 : 0);
                int all = stacks[cakes - 1] << (sided ? cakes : 0);
                is("the last, its code", x.ranked(0, all - 1, 0), 654321 % (int) Math.pow(10, cakes));
                is("the last, its sides", x.ranked(0, all - 1, 1), sided ? (1 << cakes) - 1 : 0);
                is("one more", x.ranked(0, all, 0), NOT_FOUND);
                is("one more", x.ranked(0, all, 1), NOT_FOUND);
                is("the greatest number", x.ranked(0, Integer.MAX_VALUE, 0), NOT_FOUND);
                is("a number that wraps around", x.ranked(0, 1 << 30, 1), NOT_FOUND);
            }
        }
    }

    private static void rankedAsItLies() {
        sentence("Promise 15", "stack: number of a stack: its kind and the number of its cakes");
        TurnTops x = laid(WEAK, 2, 1, 21, 3);
        is("how it lies does not count", x.ranked(0, 0, 0), 12);
        is("nor its strength", x.ranked(0, 4, 0), 21);
        lies(x, 0, 21, 3);
    }

    // ---- promise 16

    private static void ofDistance() {
        stackNumbers("Promise 16", (x, stack) -> x.ofDistance(stack, 0));
        ofDistanceTurns();
        ofDistanceNone();
        ofDistanceFarthest();
        ofDistanceStrength();
        ofDistanceUnsortable();
        ofDistanceAsItLies();
    }

    private static void ofDistanceTurns() {
        sentence("Promise 16", "turns: 0 to 12");
        range(() -> kitchen(BURNT, 5, 0), 0, 12, (x, turns) -> x.ofDistance(0, turns));
        is("12", kitchen(BURNT, 5, 0).ofDistance(0, 12), 0);
    }

    private static void ofDistanceNone() {
        sentence("Promise 16", "from which some turns, and no fewer, are needed", "0 turns");
        is("plain", kitchen(PLAIN, 6, 0).ofDistance(0, 0), 1);
        is("burnt", kitchen(BURNT, 5, 0).ofDistance(0, 0), 1);
        is("glued", kitchen(GLUED, 1, 0).ofDistance(0, 0), 1);
        is("weak", kitchen(WEAK, 5, 1).ofDistance(0, 0), 1);
    }

    private static void ofDistanceFarthest() {
        sentence("Promise 16", "from which some turns, and no fewer, are needed", "the most that any needs");
        int[] burnt = {1, 5, 20, 80, 280, 680, 1214, 1127, 389, 40, 4, 0, 0};
        int[] plain = {1, 5, 20, 79, 199, 281, 133, 2, 0, 0, 0, 0, 0};
        for (int turns = 0; turns <= 12; turns++) {
            is("burnt, turns " + turns, kitchen(BURNT, 5, 0).ofDistance(0, turns), burnt[turns]);
            is("plain, turns " + turns, kitchen(PLAIN, 6, 0).ofDistance(0, turns), plain[turns]);
        }
    }

    private static void ofDistanceStrength() {
        sentence("Promise 16", "of a kind, with the cakes and the strength of a stack");
        is("all turns are light", kitchen(WEAK, 5, 15).ofDistance(0, 10), 4);
        is("that of 5 is too heavy", kitchen(WEAK, 5, 14).ofDistance(0, 10), 0);
        TurnTops both = kitchen(WEAK, 2, 2);
        both.stack(WEAK, 2, 3);
        is("only 1 1", both.ofDistance(0, 2), 0);
        is("as in burnt ones", both.ofDistance(1, 2), 2);
    }

    private static void ofDistanceUnsortable() {
        sentence("Promise 16", "from which some turns, and no fewer, are needed", "some can't be sorted");
        // of the 8 stacks just 12 itself and 12 with 1 burnt can be sorted
        int[] due = {1, 1, 0, 0, 0, 0, 0, 0, 0, 0, 0, 0, 0};
        for (int turns = 0; turns <= 12; turns++) {
            is("turns " + turns, kitchen(WEAK, 2, 1).ofDistance(0, turns), due[turns]);
        }
    }

    private static void ofDistanceAsItLies() {
        sentence("Promise 16", "the stacks of a kind, with the cakes and the strength of a stack", "however it lies");
        is("farthest", laid(BURNT, 5, 0, 12345, 31).ofDistance(0, 10), 4);
        is("not to be sorted", laid(WEAK, 2, 1, 21, 0).ofDistance(0, 1), 1);
    }
}
