/**
 * Each sentence on hands and texts that names a boundary case, by a test of its own: of the terms "Hands" and "Texts",
 * and of the promises 17 and 19 to 22.
 */
public final class TextBoundariesTest extends Checks {
    private static final String FIFTY = "A" + "1".repeat(48) + ";";

    public static void main(String[] args) {
        termsOfHands();
        termsOfTexts();
        termsOfFaults();
        count();
        type();
        clearText();
        fault();
        play();
        end();
    }

    private static TurnTops written(TurnTops x, String text) {
        write(x, text);
        is("length", x.count(12), text.length());
        return x;
    }

    private static void faultIs(TurnTops x, String text, int position, int reason) {
        x.clearText();
        write(x, text);
        is("position in \"" + text + "\"", x.fault(0), position);
        is("reason in \"" + text + "\"", x.fault(1), reason);
    }

    private static void noFault(TurnTops x, String text) {
        faultIs(x, text, NOT_FOUND, NOT_FOUND);
    }

    // ---- the term "Hands"

    private static void termsOfHands() {
        threeHands();
        handAtFirst();
        handBehindTurns();
        handBehindRows();
        handBehindTexts();
        handBehindOtherChanges();
        handBehindRefusedTurns();
        turnCountsForTheHandThatWasOn();
    }

    private static void threeHands() {
        sentence("Hands",
            "There are 3 hands, numbered from 0, each of which has made some turns and some work so far.");
        TurnTops x = new TurnTops();
        is("turns at first", turnsOfHands(x), 0);
        is("work at first", workOfHands(x), 0);
        x.stack(PLAIN, 6, 0);
        x.doRow(0, 456);
        is("turns", turnsOfHands(x), 111);
        is("work", workOfHands(x), 456);
    }

    private static void handAtFirst() {
        sentence("Hands", "The hand that is on is 0 at first");
        is("hand", new TurnTops().count(3), 0);
        TurnTops x = kitchen(PLAIN, 6, 0);
        x.turn(0, 5);
        is("it makes the first turn", turnsOfHands(x), 100);
    }

    private static void handBehindTurns() {
        sentence("Hands", "behind each turn .. the next one is on, behind 2 again 0");
        TurnTops x = kitchen(PLAIN, 2, 0);
        for (int turns = 1; turns <= 10; turns++) {
            x.turn(0, 1);
            is("hand behind turn " + turns, x.count(3), turns % 3);
        }
        is("turns", turnsOfHands(x), 433);
    }

    private static void handBehindRows() {
        sentence("Hands", "(also those of rows ..)");
        int row = 0;
        for (int turns = 1; turns <= 8; turns++) {
            row = row * 10 + 1;
            TurnTops x = kitchen(PLAIN, 2, 0);
            x.doRow(0, row);
            is("hand behind " + turns, x.count(3), turns % 3);
        }
        TurnTops x = kitchen(PLAIN, 3, 0);
        x.doRow(0, 11);
        is("hand 2", x.count(3), 2);
        x.doRow(0, 321);
        is("from hand 2 on", workOfHands(x), 323);
        is("hand 2", x.count(3), 2);
        x.doRow(0, 1);
        is("from hand 2 to 0", x.count(3), 0);
    }

    private static void handBehindTexts() {
        sentence("Hands", "(also those of .. texts)");
        TurnTops x = kitchenWith(2);
        written(x, "A1;B1;");
        x.play();
        is("hand", x.count(3), 2);
        x.play();
        is("behind 2 again 0, between two orders", x.count(3), 1);
        is("turns", turnsOfHands(x), 211);
        x.clearText();
        x.play();
        is("behind no turn", x.count(3), 1);
    }

    private static void handBehindOtherChanges() {
        sentence("Hands", "behind each turn .. the next one is on", "not behind other changes");
        TurnTops x = kitchen(PLAIN, 3, 0);
        is("stack", x.count(3), 0);
        x.lay(0, 312, 0);
        is("lay", x.count(3), 0);
        x.turn(0, 1);
        x.stack(PLAIN, 3, 0);
        x.lay(1, 312, 0);
        is("hand", x.count(3), 1);
        x.turn(1, 1);
        is("the same hands serve all stacks", turnsOfHands(x), 110);
    }

    private static void handBehindRefusedTurns() {
        sentence("Hands", "behind each turn .. the next one is on", "not behind one that is refused");
        TurnTops x = kitchen(GLUED, 3, 0);
        x.turn(0, 1);
        x.turn(0, 4);
        x.doRow(0, 1);
        x.gapsBehind(0, 1);
        is("hand", x.count(3), 0);
        is("turns", turnsOfHands(x), 0);
    }

    private static void turnCountsForTheHandThatWasOn() {
        sentence("Hands", "A turn counts for the hand that was on, its work too.");
        TurnTops x = kitchen(PLAIN, 6, 0);
        x.turn(0, 1);
        x.turn(0, 2);
        x.turn(0, 6);
        is("work", workOfHands(x), 126);
        x.turn(0, 3);
        is("behind 2 again 0", workOfHands(x), 426);
        is("turns", turnsOfHands(x), 211);
    }

    // ---- the term "Texts"

    private static void termsOfTexts() {
        textOfFifty();
        textInitiallyEmpty();
        orderLetter();
        orderDigits();
        orderEnd();
    }

    private static void textOfFifty() {
        sentence("Texts", "There is a text of at most 50 characters");
        TurnTops x = written(kitchen(PLAIN, 1, 0), FIFTY);
        is("50", x.count(12), 50);
        is("a 51st", x.type('A'), LIMIT);
        is("50", x.count(12), 50);
        is("the 50 are as before", x.play(), 48);
    }

    private static void textInitiallyEmpty() {
        sentence("Texts", "initially empty");
        TurnTops x = new TurnTops();
        is("length", x.count(12), 0);
        is("fault", x.fault(0), NOT_FOUND);
        is("clearText", x.clearText(), 0);
    }

    private static void orderLetter() {
        sentence("Texts", "each a letter \"A\" to \"E\" for a stack (0 to 4)");
        TurnTops x = kitchenWith(5);
        noFault(x, "A1;");
        noFault(x, "E1;");
        for (String text : new String[] {"@1;", "F1;", "a1;", "e1;", "01;", "Z1;", " A1;", "~", ";", "1"}) {
            faultIs(x, text, 0, 1);
        }
        x.clearText();
        write(x, "E1;D12;A123;");
        x.play();
        is("A is stack 0", x.stackOf(0, 9), 3);
        is("B was not named", x.stackOf(1, 9), 0);
        is("D is stack 3", x.stackOf(3, 9), 2);
        is("E is stack 4", x.stackOf(4, 9), 1);
    }

    private static void orderDigits() {
        sentence("Texts", "followed by one or more digits, each a turn of that stack");
        TurnTops x = kitchen(BURNT, 3, 0);
        faultIs(x, "A;", 1, 1);
        faultIs(x, "A1;A;", 4, 1);
        noFault(x, "A3;");
        noFault(x, "A" + "3".repeat(48) + ";");
        // the signs next to the digits
        faultIs(x, "A/;", 1, 1);
        faultIs(x, "A:;", 1, 1);
        faultIs(x, "A1/;", 2, 1);
        faultIs(x, "A1:;", 2, 1);
        faultIs(x, "A 1;", 1, 1);
        faultIs(x, "AB1;", 1, 1);
    }

    private static void orderEnd() {
        sentence("Texts", "and \";\"");
        TurnTops x = kitchen(BURNT, 3, 0);
        noFault(x, "A1;A2;");
        faultIs(x, "A1A2;", 2, 1);
        faultIs(x, "A1 ;", 2, 1);
        faultIs(x, "A1;;", 3, 1);
        faultIs(x, "A1;2;", 3, 1);
        faultIs(x, "A1; ", 3, 1);
    }

    private static void termsOfFaults() {
        faultAtTheBeginning();
        faultAtTheEnd();
        faultAtTheEndOfFifty();
        faultNoSuchStack();
        faultDigitZero();
        faultDigitTooGreat();
        faultTurnNotPossible();
        faultWhenThoseAheadAreDone();
        faultFirst();
    }

    private static void faultAtTheBeginning() {
        sentence("Texts",
            "The fault of the text is the position, from 0, of the first character that is not possible there");
        faultIs(kitchen(PLAIN, 3, 0), "x", 0, 1);
        faultIs(kitchen(PLAIN, 3, 0), "A1;x", 3, 1);
        faultIs(kitchen(PLAIN, 3, 0), "AxyA9B", 1, 1);
    }

    private static void faultAtTheEnd() {
        sentence("Texts", "(also the end of the text, told as its length)");
        TurnTops x = kitchen(PLAIN, 3, 0);
        faultIs(x, "A", 1, 1);
        faultIs(x, "A1", 2, 1);
        faultIs(x, "A123", 4, 1);
        faultIs(x, "A1;A", 4, 1);
        faultIs(x, "A1;A1", 5, 1);
        noFault(x, "A1;A1;");
    }

    private static void faultAtTheEndOfFifty() {
        sentence("Texts", "(also the end of the text, told as its length)", "of 50 characters");
        TurnTops x = kitchen(PLAIN, 1, 0);
        faultIs(x, "A" + "1".repeat(49), 50, 1);
        faultIs(x, "A1;".repeat(16) + "A1", 50, 1);
        faultIs(x, "A" + "1".repeat(46) + ";A1", 50, 1);
        faultIs(x, "A" + "1".repeat(47) + ";A", 50, 1);
        faultIs(x, "A" + "1".repeat(48) + "A", 49, 1);
        noFault(x, FIFTY);
    }

    private static void faultNoSuchStack() {
        sentence("Texts", "2 if there is no such stack (at its letter)");
        faultIs(new TurnTops(), "A1;", 0, 2);
        faultIs(new TurnTops(), "E", 0, 2);
        faultIs(new TurnTops(), "F", 0, 1);
        TurnTops x = kitchenWith(4);
        noFault(x, "D1;");
        faultIs(x, "E1;", 0, 2);
        faultIs(x, "D1;E1;", 3, 2);
        faultIs(x, "D1;E", 3, 2);
        x.stack(PLAIN, 3, 0);
        is("it has come", x.fault(1), 1);
        x.undo();
        is("it has gone", x.fault(1), 2);
    }

    private static void faultDigitZero() {
        sentence("Texts", "(A digit that is .. 0, is not possible.)");
        TurnTops x = kitchen(PLAIN, 3, 0);
        faultIs(x, "A0;", 1, 3);
        faultIs(x, "A10;", 2, 3);
        faultIs(x, "A0", 1, 3);
    }

    private static void faultDigitTooGreat() {
        sentence("Texts", "(A digit that is greater than the number of cakes .. is not possible.)");
        for (int cakes = 1; cakes <= 6; cakes++) {
            TurnTops x = kitchen(PLAIN, cakes, 0);
            noFault(x, "A" + cakes + ";");
            faultIs(x, "A" + (cakes + 1) + ";", 1, 3);
            faultIs(x, "A1" + (cakes + 1) + ";", 2, 3);
            faultIs(x, "A9", 1, 3);
        }
    }

    private static void faultTurnNotPossible() {
        sentence("Texts", "3 if the turn is not possible (at its digit)");
        faultIs(kitchen(GLUED, 3, 0), "A1;", 1, 3);
        faultIs(kitchen(GLUED, 1, 0), "A1;", 1, 3);
        noFault(laid(GLUED, 3, 0, 213, 0), "A2;");
        faultIs(laid(GLUED, 3, 0, 213, 0), "A3;", 1, 3);
        noFault(kitchen(WEAK, 5, 15), "A5;");
        faultIs(kitchen(WEAK, 5, 14), "A5;", 1, 3);
    }

    private static void faultWhenThoseAheadAreDone() {
        sentence("Texts", "when those ahead of it are done");
        TurnTops x = laid(GLUED, 3, 0, 132, 0);
        x.stack(GLUED, 3, 0);
        x.lay(1, 213, 0);
        faultIs(x, "A2;", 1, 3);
        noFault(x, "A323;");
        noFault(x, "A3;A2;B2;A3;");
        faultIs(x, "A3233;", 4, 3);
        faultIs(x, "B2;A3;B2;", 7, 3);
        is("none is done by asking", x.count(10), 0);
        lies(x, 0, 132, 0);
    }

    private static void faultFirst() {
        sentence("Texts", "of the first character that is not possible there", "ahead of other faults");
        TurnTops x = kitchen(PLAIN, 3, 0);
        faultIs(x, "A9B1;x", 1, 3);
        faultIs(x, "B9;x", 0, 2);
        faultIs(x, "xB9;", 0, 1);
        faultIs(x, "A1B", 2, 1);
    }

    // ---- promise 17

    private static void count() {
        countWhat();
        countStacks();
        countSorted();
        countGaps();
        countTurnsAndWork();
        countAllTurns();
        countStates();
        countLength();
    }

    private static void countWhat() {
        sentence("Promise 17", "what: 0 .. 12");
        range(TurnTops::new, 0, 12, (x, what) -> x.count(what));
        range(() -> kitchenWith(5), 0, 12, (x, what) -> x.count(what));
    }

    private static void countStacks() {
        sentence("Promise 17", "0: stacks");
        is("none", new TurnTops().count(0), 0);
        TurnTops x = kitchenWith(5);
        is("five", x.count(0), 5);
        x.stack(PLAIN, 1, 0);
        is("still five", x.count(0), 5);
    }

    private static void countSorted() {
        sentence("Promise 17", "1: stacks that are sorted");
        is("none of none", new TurnTops().count(1), 0);
        TurnTops x = kitchenWith(5);
        is("all", x.count(1), 5);
        x.turn(4, 1);
        is("all but the last", x.count(1), 4);
        x.turn(0, 1);
        x.turn(1, 1);
        x.turn(2, 1);
        x.turn(3, 1);
        is("none of five", x.count(1), 0);
    }

    private static void countGaps() {
        sentence("Promise 17", "2: gaps of all stacks");
        is("of no stacks", new TurnTops().count(2), 0);
        TurnTops x = new TurnTops();
        for (int stack = 0; stack < 5; stack++) {
            x.stack(PLAIN, 6, 0);
        }
        is("of sorted ones", x.count(2), 0);
        for (int stack = 0; stack < 5; stack++) {
            x.lay(stack, 246135, 0);
            is("gaps", x.count(2), 6 * (stack + 1));
        }
    }

    private static void countTurnsAndWork() {
        sentence("Promise 17", "4 to 6: the turns of the hands 0 to 2; 7 to 9: their work");
        TurnTops x = kitchen(PLAIN, 6, 0);
        x.doRow(0, 6532);
        int[] due = {1, 2, 1, 1, 6 + 2, 5, 3, 4};
        for (int what = 3; what <= 10; what++) {
            is("what " + what, x.count(what), due[what - 3]);
        }
    }

    private static void countAllTurns() {
        sentence("Promise 17", "10: turns so far");
        TurnTops x = kitchenWith(2);
        is("none", x.count(10), 0);
        x.turn(0, 1);
        x.doRow(1, 11111111);
        write(x, "A1;B1;");
        x.play();
        is("by turn, doRow and play, of all stacks", x.count(10), 11);
        x.undo();
        is("undone ones are none", x.count(10), 9);
    }

    private static void countStates() {
        sentence("Promise 17", "11: states in the history");
        TurnTops x = new TurnTops();
        is("none", x.count(11), 0);
        for (int changes = 1; changes <= 6; changes++) {
            x.play();
            is("states behind " + changes, x.count(11), Math.min(changes, 4));
        }
        x.undo();
        is("states", x.count(11), 3);
    }

    private static void countLength() {
        sentence("Promise 17", "12: the length of the text");
        TurnTops x = new TurnTops();
        is("empty", x.count(12), 0);
        for (int length = 1; length <= 50; length++) {
            x.type(126);
            is("length", x.count(12), length);
        }
        x.type(126);
        is("full", x.count(12), 50);
        x.clearText();
        is("empty again", x.count(12), 0);
    }

    // ---- promise 19

    private static void type() {
        typeCharacter();
        typeAllCharacters();
        typeLimit();
        typeBehindClearText();
    }

    private static void typeCharacter() {
        sentence("Promise 19", "character: 32 to 126");
        for (int character : new int[] {31, 127, 0, 10, 128, 255, 256 + 'A', 65536 + 'A', -32, -'A'}) {
            is("character " + character, new TurnTops().type(character), INVALID);
        }
        for (int never : new int[] {Integer.MIN_VALUE, -1000001, -1, 1000, Integer.MAX_VALUE}) {
            is("character " + never, new TurnTops().type(never), INVALID);
        }
        is("32", new TurnTops().type(32), 1);
        is("126", new TurnTops().type(126), 1);
        TurnTops x = new TurnTops();
        x.type(31);
        x.type(127);
        is("nothing was appended", x.count(12), 0);
    }

    private static void typeAllCharacters() {
        sentence("Promise 19", "Appends a character to the text.", "each of 32 to 126");
        TurnTops x = new TurnTops();
        for (int character = 32; character <= 126; character++) {
            is("length", x.type(character), 1);
            is("fault", x.fault(0), 0);
            is("reason", x.fault(1), character >= 'A' && character <= 'E' ? 2 : 1);
            x.clearText();
        }
    }

    private static void typeLimit() {
        sentence("Promise 19", "LIMIT_REACHED if it has 50 characters");
        TurnTops x = new TurnTops();
        for (int length = 1; length <= 50; length++) {
            is("Returns the length", x.type('A'), length);
        }
        is("the 51st", x.type('A'), LIMIT);
        is("the 51st, the least", x.type(32), LIMIT);
        is("the 51st, the greatest", x.type(126), LIMIT);
        is("length", x.count(12), 50);
    }

    private static void typeBehindClearText() {
        sentence("Promise 19", "LIMIT_REACHED if it has 50 characters", "not any more behind clearText");
        TurnTops x = written(kitchen(PLAIN, 1, 0), FIFTY);
        is("clearText", x.clearText(), 50);
        is("the first again", x.type('A'), 1);
        is("what was there before is away", x.fault(0), 1);
        x.type('1');
        is("what was there before is away", x.fault(0), 2);
    }

    // ---- promise 20

    private static void clearText() {
        clearTextEmpty();
        clearTextFull();
    }

    private static void clearTextEmpty() {
        sentence("Promise 20", "Returns the length it had.", "of an empty text");
        TurnTops x = new TurnTops();
        is("0", x.clearText(), 0);
        x.type('A');
        is("1", x.clearText(), 1);
        is("0 again", x.clearText(), 0);
        is("it is no change", x.count(11), 0);
    }

    private static void clearTextFull() {
        sentence("Promise 20", "Returns the length it had.", "of 50 characters");
        TurnTops x = written(new TurnTops(), FIFTY);
        is("a 51st", x.type('A'), LIMIT);
        is("50", x.clearText(), 50);
        is("Empties the text", x.count(12), 0);
        is("no fault", x.fault(0), NOT_FOUND);
    }

    // ---- promise 21

    private static void fault() {
        faultWhat();
        faultOfEmptyText();
        faultNone();
        faultOfThePresentState();
    }

    private static void faultWhat() {
        sentence("Promise 21", "what: 0: its position; 1: its reason");
        range(() -> written(new TurnTops(), "A1;"), 0, 1, (x, what) -> x.fault(what));
        range(TurnTops::new, 0, 1, (x, what) -> x.fault(what));
        faultIs(kitchen(PLAIN, 3, 0), "A129", 3, 3);
    }

    private static void faultOfEmptyText() {
        sentence("Promise 21", "(also if it is empty)");
        is("position", new TurnTops().fault(0), NOT_FOUND);
        is("reason", new TurnTops().fault(1), NOT_FOUND);
        TurnTops x = kitchenWith(1);
        faultIs(x, "A9", 1, 3);
        noFault(x, "");
    }

    private static void faultNone() {
        sentence("Promise 21", "NOT_FOUND if the text has no fault");
        noFault(kitchen(BURNT, 1, 0), "A1;");
        noFault(kitchen(BURNT, 1, 0), FIFTY);
        noFault(kitchenWith(5), "A1;B2;C3;D123;E321;");
    }

    private static void faultOfThePresentState() {
        sentence("Promise 21", "Tells about the fault of the text.", "as the stacks lie now");
        TurnTops x = laid(GLUED, 3, 0, 213, 0);
        noFault(x, "A2;");
        is("play", x.play(), 1);
        is("it can't be played again", x.fault(0), 1);
        is("reason", x.fault(1), 3);
        x.undo();
        is("it can", x.fault(0), NOT_FOUND);
    }

    // ---- promise 22

    private static void play() {
        playNoTurns();
        playMostTurns();
        playManyOrders();
        playWithFault();
        playTextStays();
    }

    private static void playNoTurns() {
        sentence("Promise 22", "They are one change, also if there are none.");
        TurnTops x = new TurnTops();
        is("turns", x.play(), 0);
        is("states", x.count(11), 1);
        is("undo", x.undo(), 0);
        is("turns so far", x.count(10), 0);
    }

    private static void playMostTurns() {
        sentence("Promise 22", "Returns how many turns there are in it");
        is("the most", written(kitchen(BURNT, 1, 0), FIFTY).play(), 48);
        is("one", written(kitchen(BURNT, 1, 0), "A1;").play(), 1);
        TurnTops x = written(kitchen(BURNT, 1, 0), FIFTY);
        x.play();
        is("turns so far", x.count(10), 48);
        is("turns of the stack", x.stackOf(0, 9), 48);
        is("turns of a hand", x.count(6), 16);
    }

    private static void playManyOrders() {
        sentence("Promise 22", "They are one change");
        TurnTops x = written(kitchenWith(2), "A1;B12;A3;B3;");
        is("turns", x.play(), 5);
        is("one state more", x.count(11), 3);
        is("undo", x.undo(), 2);
        is("all are undone", x.count(10), 0);
        lies(x, 0, 123, 0);
        lies(x, 1, 123, 0);
    }

    private static void playWithFault() {
        sentence("Promise 22", "NOT_POSSIBLE if it has a fault");
        for (String text : new String[] {"x", "A", "A1", "A0;", "A4;", "C1;", "A1;B2;x", "A1;B2;A", "A1;B2;C",
            "A1;B24;"}) {
            TurnTops x = written(kitchenWith(2), text);
            int[] before = seen(x);
            is("play of \"" + text + "\"", x.play(), IMPOSSIBLE);
            same("behind \"" + text + "\"", seen(x), before);
        }
    }

    private static void playTextStays() {
        sentence("Promise 22", "Makes all turns of the text, which stays.");
        TurnTops x = written(kitchen(BURNT, 3, 0), "A123;");
        is("play", x.play(), 3);
        is("length", x.count(12), 5);
        is("play again", x.play(), 3);
        is("turns", x.stackOf(0, 9), 6);
        is("states", x.count(11), 3);
    }
}
