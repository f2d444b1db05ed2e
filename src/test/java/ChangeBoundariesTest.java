import java.util.function.Supplier;
import java.util.function.ToIntFunction;

/**
 * Each sentence on changes, the history and errors that names a boundary case, by a test of its own: of "What it is"
 * and the term "Changes and errors", and of promise 18.
 */
public final class ChangeBoundariesTest extends Checks {
    /** 50 characters; the fault of the last one is that the text ends behind it. */
    private static final String UNENDED = "A1;B12;".repeat(7) + "A";

    /** A call with its arguments, and the error that it shall return, 0 if none. */
    private record Asked(String name, int due, ToIntFunction<TurnTops> call) {
    }

    public static void main(String[] args) {
        callsInAll();
        changesAndOthers();
        history();
        undo();
        precedence();
        noSuchStack();
        refusedCallsChangeNothing();
        questionsChangeNothing();
        end();
    }

    // ---- "What it is"

    private static void callsInAll() {
        sentence("What it is", "An object is used for at most 512 calls after it has been made");
        is("the 512th, turns so far", behind511Turns().count(10), 510);
        is("the 512th, turns of the stack", behind511Turns().stackOf(0, 9), 510);
        is("the 512th, hand", behind511Turns().count(3), 0);
        is("the 512th, work of hand 2", behind511Turns().count(9), 170 * 6);
        is("the 512th, states", behind511Turns().count(11), 4);
        is("the 512th, undo", behind511Turns().undo(), 3);
        is("the 512th, a row", behind511Turns().doRow(0, 66666666), 0);
        is("the 512th, lookedAt", behind511Turns().lookedAt(0, 6), 1);
        TurnTops full = kitchen(PLAIN, 1, 0);
        write(full, "A" + "1".repeat(48) + ";");
        for (int calls = 51; calls < 511; calls++) {
            full.play();
        }
        is("the 512th, the most turns", full.count(10), 460 * 48);
    }

    private static TurnTops behind511Turns() {
        TurnTops x = kitchen(PLAIN, 6, 0);
        for (int turns = 0; turns < 510; turns++) {
            x.turn(0, 6);
        }
        return x;
    }

    // ---- "Changes and errors"

    private static void changesAndOthers() {
        eachChange();
        eachOtherCall();
        refusedChanges();
    }

    /** Five stacks of all kinds, one of them with no turn that is possible, and 4 states; the text is full. */
    private static TurnTops full() {
        TurnTops x = new TurnTops();
        x.stack(PLAIN, 3, 0);
        x.stack(BURNT, 2, 0);
        x.stack(GLUED, 3, 0);
        x.stack(WEAK, 2, 1);
        x.stack(PLAIN, 6, 0);
        x.lay(0, 312, 0);
        x.lay(2, 213, 0);
        x.lay(3, 21, 0);
        x.doRow(0, 21);
        x.turn(1, 2);
        write(x, UNENDED);
        is("length", x.count(12), 50);
        is("the text ends too early", x.fault(0), 50);
        return x;
    }

    private static void eachChange() {
        sentence("Changes and errors", "The changes are the calls of stack, lay, turn, doRow and play");
        TurnTops x = new TurnTops();
        x.stack(BURNT, 3, 0);
        is("stack", x.count(11), 1);
        x.lay(0, 321, 0);
        is("lay", x.count(11), 2);
        x.turn(0, 1);
        is("turn", x.count(11), 3);
        x.doRow(0, 12);
        is("doRow", x.count(11), 4);
        TurnTops y = kitchenWith(1);
        y.play();
        is("play", y.count(11), 2);
    }

    private static void eachOtherCall() {
        sentence("Changes and errors", "The changes are the calls of stack, lay, turn, doRow and play", "no others");
        TurnTops x = kitchenWith(1);
        for (int character : new int[] {'A', '1', ';'}) {
            x.type(character);
        }
        is("type", x.count(11), 1);
        x.clearText();
        is("clearText", x.count(11), 1);
        for (Asked question : questions()) {
            question.call.applyAsInt(x);
            is(question.name, x.count(11), 1);
        }
        x.turn(0, 1);
        x.undo();
        is("undo records nothing", x.count(11), 1);
    }

    private static void refusedChanges() {
        sentence("Changes and errors", "that return no error");
        TurnTops x = kitchen(GLUED, 3, 0);
        x.stack(PLAIN, 7, 0);
        x.lay(0, 124, 0);
        x.turn(0, 4);
        x.turn(0, 1);
        x.doRow(0, 0);
        x.doRow(0, 1);
        write(x, "A1;");
        x.play();
        is("states", x.count(11), 1);
    }

    private static void history() {
        historyOfFour();
        historyDropsTheOldest();
        historyKeepsEverything();
        historyKeepsNoText();
    }

    private static TurnTops changed(int changes) {
        TurnTops x = new TurnTops();
        x.stack(PLAIN, 6, 0);
        for (int many = 2; many <= changes; many++) {
            x.turn(0, 1 + many % 6);
        }
        return x;
    }

    private static void historyOfFour() {
        sentence("Changes and errors", "A history of at most 4 states is kept");
        is("empty", new TurnTops().count(11), 0);
        for (int changes = 1; changes <= 9; changes++) {
            is("states behind " + changes, changed(changes).count(11), Math.min(changes, 4));
        }
        TurnTops x = changed(4);
        for (int left = 3; left >= 0; left--) {
            is("undo", x.undo(), left);
        }
        is("all 4 are undone", x.count(0), 0);
    }

    private static void historyDropsTheOldest() {
        sentence("Changes and errors", "and if there are 5 states then, the oldest one is dropped");
        for (int changes = 5; changes <= 10; changes++) {
            TurnTops x = changed(changes);
            for (int back = 1; back <= 4; back++) {
                is("undo", x.undo(), 4 - back);
                TurnTops due = changed(changes - back);
                is("code", x.stackOf(0, 3), due.stackOf(0, 3));
                is("turns", x.count(10), due.count(10));
                is("hand", x.count(3), due.count(3));
            }
            is("the oldest one", x.undo(), IMPOSSIBLE);
            is("stacks", x.count(0), 1);
        }
    }

    private static void historyKeepsEverything() {
        sentence("Changes and errors", "each change records everything before it");
        restores("stack", x -> x.stack(WEAK, 5, 21));
        restores("lay", x -> x.lay(1, 321, 7));
        restores("turn", x -> x.turn(0, 3));
        restores("doRow", x -> x.doRow(1, 12321321));
        restores("play", x -> x.play());
    }

    private static TurnTops threeStates() {
        TurnTops x = kitchenWith(2);
        x.turn(0, 2);
        write(x, "A12;B3;");
        return x;
    }

    private static TurnTops undone(TurnTops x, ToIntFunction<TurnTops> change) {
        change.applyAsInt(x);
        x.undo();
        return x;
    }

    private static void restores(String name, ToIntFunction<TurnTops> change) {
        TurnTops x = threeStates();
        int[] before = seen(x);
        isTrue(name, change.applyAsInt(x) >= 0);
        is("states behind " + name, x.count(11), 4);
        is("undo of " + name, x.undo(), 3);
        same("undo of " + name, seen(x), before);
        sameBehindChanges(name + " and undo", () -> undone(threeStates(), change), () -> threeStates());
    }

    private static void historyKeepsNoText() {
        sentence("Changes and errors", "everything before it but the text");
        TurnTops x = kitchenWith(1);
        write(x, "A1");
        x.turn(0, 1);
        x.type(';');
        x.undo();
        is("what was typed since stays", x.count(12), 3);
        is("it can be played", x.play(), 1);
        x.clearText();
        x.undo();
        is("what was emptied since stays empty", x.count(12), 0);
    }

    // ---- promise 18

    private static void undo() {
        undoOfEmptyHistory();
        undoReturnsWhatIsLeft();
        undoTwice();
        undoOfStacks();
        undoOfTheHand();
    }

    private static void undoOfEmptyHistory() {
        sentence("Promise 18", "NOT_POSSIBLE if it is empty");
        TurnTops x = new TurnTops();
        is("at first", x.undo(), IMPOSSIBLE);
        x.stack(PLAIN, 1, 0);
        is("one state", x.undo(), 0);
        is("empty again", x.undo(), IMPOSSIBLE);
        is("and again", x.undo(), IMPOSSIBLE);
        is("states", x.count(11), 0);
        TurnTops full = full();
        for (int left = 3; left >= 0; left--) {
            is("undo", full.undo(), left);
        }
        int[] before = seen(full);
        is("behind 4", full.undo(), IMPOSSIBLE);
        same("behind 4", seen(full), before);
    }

    private static void undoReturnsWhatIsLeft() {
        sentence("Promise 18", "Returns the number of states that are left in the history");
        for (int changes = 1; changes <= 6; changes++) {
            TurnTops x = changed(changes);
            is("undo", x.undo(), Math.min(changes, 4) - 1);
            is("states", x.count(11), Math.min(changes, 4) - 1);
        }
    }

    private static void undoTwice() {
        sentence("Promise 18", "Restores the latest state of the history, which is removed from it.");
        TurnTops x = kitchen(PLAIN, 3, 0);
        x.lay(0, 132, 0);
        x.lay(0, 213, 0);
        x.undo();
        lies(x, 0, 132, 0);
        x.lay(0, 231, 0);
        is("a change behind undo is recorded", x.count(11), 3);
        x.undo();
        lies(x, 0, 132, 0);
        x.undo();
        lies(x, 0, 123, 0);
        x.undo();
        is("stacks", x.count(0), 0);
    }

    private static void undoOfStacks() {
        sentence("Promise 18", "Restores the latest state of the history", "one with fewer stacks");
        TurnTops x = kitchenWith(5);
        x.undo();
        is("stacks", x.count(0), 4);
        is("the fifth", x.stackOf(4, 0), INVALID);
        is("another fifth", x.stack(WEAK, 2, 2), 4);
        is("its kind", x.stackOf(4, 0), WEAK);
        is("its turns", x.stackOf(4, 9), 0);
    }

    private static void undoOfTheHand() {
        sentence("Promise 18", "Restores the latest state of the history", "one with another hand");
        TurnTops x = kitchenWith(1);
        x.doRow(0, 12);
        x.turn(0, 3);
        is("behind 2 again 0", x.count(3), 0);
        x.undo();
        is("2 again", x.count(3), 2);
        is("work", workOfHands(x), 120);
        x.undo();
        is("0 again", x.count(3), 0);
        is("work", workOfHands(x), 0);
    }

    // ---- several errors

    private static void precedence() {
        invalidRatherThanNotPossible();
        invalidRatherThanLimit();
        invalidRatherThanNotFound();
    }

    /** No call can return two of the other errors, so these three are all that there are. */
    private static void invalidRatherThanNotPossible() {
        sentence("Changes and errors", "INVALID_ARGUMENT is returned rather than NOT_POSSIBLE");
        TurnTops x = full();
        is("no turn of the weak one is possible", x.turn(3, 1), IMPOSSIBLE);
        is("nor are 3 cakes there", x.turn(3, 3), INVALID);
        is("nor can 0 be turned", x.turn(3, 0), INVALID);
        is("nor is there stack 5", x.turn(5, 1), INVALID);
        is("9 digits, none of which is possible", x.doRow(3, 999999999), INVALID);
        is("8 digits", x.doRow(3, 99999999), IMPOSSIBLE);
        is("0, which has the digit 0", x.doRow(3, 0), INVALID);
        is("a digit 9, and no stack", x.doRow(5, 9), INVALID);
        is("-9", x.doRow(3, -9), INVALID);
    }

    private static void invalidRatherThanLimit() {
        sentence("Changes and errors", "INVALID_ARGUMENT .. rather than .. LIMIT_REACHED");
        TurnTops x = full();
        is("the sixth", x.stack(PLAIN, 6, 0), LIMIT);
        is("the sixth, 7 cakes", x.stack(PLAIN, 7, 0), INVALID);
        is("the sixth, no cakes", x.stack(PLAIN, 0, 0), INVALID);
        is("the sixth, a wrong strength", x.stack(PLAIN, 6, 1), INVALID);
        is("the sixth, no strength", x.stack(WEAK, 5, 0), INVALID);
        is("the sixth, a wrong kind", x.stack(4, 5, 0), INVALID);
        is("the 51st", x.type(32), LIMIT);
        is("the 51st, a wrong character", x.type(31), INVALID);
        is("the 51st, a wrong character", x.type(127), INVALID);
    }

    private static void invalidRatherThanNotFound() {
        sentence("Changes and errors", "INVALID_ARGUMENT .. rather than .. NOT_FOUND");
        TurnTops x = full();
        is("no row sorts it", x.fewest(3, 1), NOT_FOUND);
        is("no row, what 2", x.fewest(3, 2), INVALID);
        is("no row, what -1", x.fewest(3, -1), INVALID);
        is("too great a rank", x.ranked(3, 8, 1), NOT_FOUND);
        is("too great a rank, what 2", x.ranked(3, 8, 2), INVALID);
        is("too great a rank, no such stack", x.ranked(5, 8, 1), INVALID);
        is("no turn is possible", x.bestTurn(3), NOT_FOUND);
        is("no stack", x.bestTurn(5), INVALID);
        is("no row", x.leastWork(3), NOT_FOUND);
        is("no stack", x.leastWork(5), INVALID);
        is("no fault", new TurnTops().fault(1), NOT_FOUND);
        is("no fault, what 2", new TurnTops().fault(2), INVALID);
    }

    private static void noSuchStack() {
        sentence("Changes and errors", "If there is no stack with a certain number, this is INVALID_ARGUMENT.");
        TurnTops none = new TurnTops();
        for (Asked question : questions()) {
            boolean ofStack = !question.name.startsWith("count") && !question.name.startsWith("fault");
            is(question.name, question.call.applyAsInt(none) == INVALID ? 1 : 0, ofStack ? 1 : 0);
        }
        is("lay(0, 1, 0)", none.lay(0, 1, 0), INVALID);
        is("turn(0, 1)", none.turn(0, 1), INVALID);
        is("doRow(0, 1)", none.doRow(0, 1), INVALID);
        is("states", none.count(11), 0);
    }

    // ---- calls that change nothing

    private static void refusedCallsChangeNothing() {
        for (Asked refused : refused()) {
            sentence("Changes and errors", "A call that returns an error changes nothing.", refused.name);
            TurnTops x = full();
            is(refused.name, refused.call.applyAsInt(x), refused.due);
            sameToTheEnd(refused.name, x, full());
            sameBehindChanges(refused.name, () -> behind(full(), refused), () -> full());
        }
    }

    /** Any change that is made next makes the same of both kitchens: nothing is left of what was made before. */
    private static void sameBehindChanges(String name, Supplier<TurnTops> kitchens, Supplier<TurnTops> twins) {
        for (Asked change : nextChanges()) {
            TurnTops x = kitchens.get();
            TurnTops y = twins.get();
            is(change.name, change.call.applyAsInt(x), change.call.applyAsInt(y));
            same(change.name + " behind " + name, seen(x), seen(y));
            is("undo", x.undo(), y.undo());
            same("undo of " + change.name + " behind " + name, seen(x), seen(y));
        }
    }

    private static TurnTops behind(TurnTops x, Asked call) {
        call.call.applyAsInt(x);
        return x;
    }

    /** Changes that are possible in the full kitchen, and in one of two burnt stacks of 3. */
    private static Asked[] nextChanges() {
        return new Asked[] {
            new Asked("lay", 0, x -> x.lay(1, x.stackOf(1, 3), 3)),
            new Asked("turn", 0, x -> x.turn(1, 1)),
            new Asked("doRow", 0, x -> x.doRow(1, 12)),
            new Asked("clearText and play", 0, x -> x.clearText() + x.play()),
            new Asked("stack", 0, x -> x.stack(PLAIN, 2, 0)),
            new Asked("undo and stack", 0, x -> x.undo() + x.undo() + x.stack(PLAIN, 2, 0)),
        };
    }

    /** What is seen now, and behind each undo, and of the text, is the same of both. */
    private static void sameToTheEnd(String name, TurnTops x, TurnTops y) {
        same(name, seen(x), seen(y));
        for (int left = 3; left >= 0; left--) {
            is("undo", x.undo(), left);
            is("undo", y.undo(), left);
            same(name + ", " + left + " states left", seen(x), seen(y));
        }
        is("undo", x.undo(), IMPOSSIBLE);
        is("clearText", x.clearText(), 50);
    }

    private static Asked[] refused() {
        return new Asked[] {
            new Asked("stack(0, 1, 0)", LIMIT, x -> x.stack(PLAIN, 1, 0)),
            new Asked("stack(4, 1, 0)", INVALID, x -> x.stack(4, 1, 0)),
            new Asked("lay(5, 123, 0)", INVALID, x -> x.lay(5, 123, 0)),
            new Asked("lay(0, 124, 0)", INVALID, x -> x.lay(0, 124, 0)),
            new Asked("lay(0, 123, 1)", INVALID, x -> x.lay(0, 123, 1)),
            new Asked("lay(1, 12, 4)", INVALID, x -> x.lay(1, 12, 4)),
            new Asked("turn(-1, 1)", INVALID, x -> x.turn(-1, 1)),
            new Asked("turn(0, 4)", INVALID, x -> x.turn(0, 4)),
            new Asked("turn(2, 1), joined", IMPOSSIBLE, x -> x.turn(2, 1)),
            new Asked("turn(3, 1), too heavy", IMPOSSIBLE, x -> x.turn(3, 1)),
            new Asked("doRow(0, 111111111)", INVALID, x -> x.doRow(0, 111111111)),
            new Asked("doRow(0, -1)", INVALID, x -> x.doRow(0, -1)),
            new Asked("doRow(0, 12312314), at its last turn", IMPOSSIBLE, x -> x.doRow(0, 12312314)),
            new Asked("doRow(0, 1230), at its last turn", IMPOSSIBLE, x -> x.doRow(0, 1230)),
            new Asked("doRow(2, 22), at its last turn", IMPOSSIBLE, x -> x.doRow(2, 22)),
            new Asked("stackOf(0, 10)", INVALID, x -> x.stackOf(0, 10)),
            new Asked("cakeAt(0, 3)", INVALID, x -> x.cakeAt(0, 3)),
            new Asked("gapsBehind(0, 4)", INVALID, x -> x.gapsBehind(0, 4)),
            new Asked("fewest(0, 2)", INVALID, x -> x.fewest(0, 2)),
            new Asked("fewest(3, 1)", NOT_FOUND, x -> x.fewest(3, 1)),
            new Asked("leastWork(3)", NOT_FOUND, x -> x.leastWork(3)),
            new Asked("ways(0, 6)", INVALID, x -> x.ways(0, 6)),
            new Asked("lookedAt(0, 7)", INVALID, x -> x.lookedAt(0, 7)),
            new Asked("simple(0, 3)", INVALID, x -> x.simple(0, 3)),
            new Asked("bestTurn(3)", NOT_FOUND, x -> x.bestTurn(3)),
            new Asked("ranked(0, 6, 0)", NOT_FOUND, x -> x.ranked(0, 6, 0)),
            new Asked("ranked(0, -1, 0)", INVALID, x -> x.ranked(0, -1, 0)),
            new Asked("ofDistance(0, 13)", INVALID, x -> x.ofDistance(0, 13)),
            new Asked("count(13)", INVALID, x -> x.count(13)),
            new Asked("type(127)", INVALID, x -> x.type(127)),
            new Asked("type(65)", LIMIT, x -> x.type('A')),
            new Asked("fault(2)", INVALID, x -> x.fault(2)),
            new Asked("play(), at the end of the text", IMPOSSIBLE, x -> x.play()),
        };
    }

    private static void questionsChangeNothing() {
        sentence("Not promised", "Nothing is promised beyond the answers and state changes described above");
        for (Asked question : questions()) {
            TurnTops x = full();
            isTrue(question.name, question.call.applyAsInt(x) >= 0);
            sameToTheEnd(question.name, x, full());
            sameBehindChanges(question.name, () -> behind(full(), question), () -> full());
        }
    }

    /** Calls that only tell something, none of which is refused if there is stack 0. */
    private static Asked[] questions() {
        return new Asked[] {
            new Asked("stackOf", 0, x -> x.stackOf(0, 7)),
            new Asked("cakeAt", 0, x -> x.cakeAt(0, 1)),
            new Asked("gapsBehind", 0, x -> x.gapsBehind(0, 2)),
            new Asked("fewest", 0, x -> x.fewest(0, 1)),
            new Asked("leastWork", 0, x -> x.leastWork(0)),
            new Asked("ways", 0, x -> x.ways(0, 5)),
            new Asked("lookedAt", 0, x -> x.lookedAt(0, 6)),
            new Asked("simple", 0, x -> x.simple(0, 1)),
            new Asked("bestTurn", 0, x -> x.bestTurn(0)),
            new Asked("ranked", 0, x -> x.ranked(0, 5, 0)),
            new Asked("ofDistance", 0, x -> x.ofDistance(0, 3)),
            new Asked("count", 0, x -> x.count(2)),
            new Asked("fault", 0, x -> x.fault(1)),
        };
    }
}
