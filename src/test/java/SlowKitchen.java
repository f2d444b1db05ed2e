import java.util.ArrayList;
import java.util.Arrays;
import java.util.Collections;
import java.util.Comparator;
import java.util.HashMap;
import java.util.List;
import java.util.Map;

/**
 * The document once more, written with lists and without any thought of speed, to compare TurnTops with.
 * A stack is a list of its sizes from the top, negative where the burnt side is above.
 */
final class SlowKitchen {
    static final int INVALID = -1000001;
    static final int NOT_POSSIBLE = -1000002;
    static final int LIMIT = -1000003;
    static final int NOT_FOUND = -1000004;

    /** Distances take long, so they are kept for all objects: by kind, cakes, strength. */
    private static final Map<List<Integer>, Map<List<Integer>, Integer>> TURNS = new HashMap<>();
    private static final Map<List<Integer>, Map<List<Integer>, Integer>> WORK = new HashMap<>();
    private static final Map<List<Integer>, List<List<Integer>>> ALL = new HashMap<>();

    private static final class Pile {
        final int kind;
        final int strength;
        List<Integer> cakes = new ArrayList<>();
        int made = 0;

        Pile(int kind, int n, int strength) {
            this.kind = kind;
            this.strength = strength;
            for (int i = 1; i <= n; i++) {
                cakes.add(i);
            }
        }

        Pile(Pile p) {
            kind = p.kind;
            strength = p.strength;
            cakes = p.cakes;
            made = p.made;
        }

        boolean sided() {
            return kind == 1 || kind == 3;
        }

        List<Integer> key() {
            return List.of(kind, cakes.size(), strength);
        }
    }

    private static final class State {
        final List<Pile> piles = new ArrayList<>();
        final int[] turns = new int[3];
        final int[] work = new int[3];
        int hand = 0;

        State copy() {
            State s = new State();
            for (Pile p : piles) {
                s.piles.add(new Pile(p));
            }
            System.arraycopy(turns, 0, s.turns, 0, 3);
            System.arraycopy(work, 0, s.work, 0, 3);
            s.hand = hand;
            return s;
        }

        boolean make(int pile, int many) {
            Pile p = piles.get(pile);
            if (many < 1 || many > p.cakes.size() || !can(p, p.cakes, many)) {
                return false;
            }
            p.cakes = over(p, p.cakes, many);
            p.made++;
            turns[hand]++;
            work[hand] += many;
            hand = (hand + 1) % 3;
            return true;
        }
    }

    private State now = new State();
    private final List<State> history = new ArrayList<>();
    private String text = "";

    private static List<Integer> over(Pile p, List<Integer> cakes, int many) {
        List<Integer> top = new ArrayList<>(cakes.subList(0, many));
        Collections.reverse(top);
        if (p.sided()) {
            top.replaceAll(c -> -c);
        }
        top.addAll(cakes.subList(many, cakes.size()));
        return top;
    }

    /** A gap below the cake at a place: the plate is a cake of the size n + 1 that shows its good side. */
    private static boolean gap(Pile p, List<Integer> cakes, int place) {
        int n = cakes.size();
        int a = cakes.get(place);
        if (place == n - 1) {
            return a != n;
        }
        int b = cakes.get(place + 1);
        return p.sided() ? b - a != 1 || (a < 0) != (b < 0) : Math.abs(a - b) != 1;
    }

    private static int gaps(Pile p, List<Integer> cakes) {
        int g = 0;
        for (int i = 0; i < cakes.size(); i++) {
            g += gap(p, cakes, i) ? 1 : 0;
        }
        return g;
    }

    private static boolean can(Pile p, List<Integer> cakes, int many) {
        if (p.kind == 2) {
            return gap(p, cakes, many - 1);
        }
        return p.kind != 3 || cakes.subList(0, many).stream().mapToInt(Math::abs).sum() <= p.strength;
    }

    private static boolean sorted(List<Integer> cakes) {
        for (int i = 0; i < cakes.size(); i++) {
            if (cakes.get(i) != i + 1) {
                return false;
            }
        }
        return true;
    }

    private static int code(List<Integer> cakes) {
        StringBuilder s = new StringBuilder();
        for (int c : cakes) {
            s.append(Math.abs(c));
        }
        return Integer.parseInt(s.toString());
    }

    private static int sides(List<Integer> cakes) {
        int s = 0;
        for (int i = 0; i < cakes.size(); i++) {
            s += cakes.get(i) < 0 ? 1 << i : 0;
        }
        return s;
    }

    /** All stacks of a kind with some cakes, in the order of their ranks. */
    private static List<List<Integer>> all(Pile p) {
        return ALL.computeIfAbsent(List.of(p.sided() ? 1 : 0, p.cakes.size()), k -> {
            List<List<Integer>> all = new ArrayList<>();
            grow(new ArrayList<>(), p, all);
            all.sort(Comparator.comparingInt((List<Integer> c) -> code(c)).thenComparingInt(c -> sides(c)));
            return all;
        });
    }

    private static void grow(List<Integer> begin, Pile p, List<List<Integer>> all) {
        int n = p.cakes.size();
        if (begin.size() == n) {
            all.add(new ArrayList<>(begin));
            return;
        }
        for (int c = -n; c <= n; c++) {
            if (c != 0 && (c > 0 || p.sided()) && !begin.contains(c) && !begin.contains(-c)) {
                begin.add(c);
                grow(begin, p, all);
                begin.remove(begin.size() - 1);
            }
        }
    }

    /** The least cost of each stack that can be sorted: asked of all its neighbors until nothing changes. */
    private static Map<List<Integer>, Integer> costs(Pile p, boolean byWork) {
        return (byWork ? WORK : TURNS).computeIfAbsent(p.key(), k -> {
            Map<List<Integer>, Integer> cost = new HashMap<>();
            boolean changed = true;
            while (changed) {
                changed = false;
                for (List<Integer> c : all(p)) {
                    int best = sorted(c) ? 0 : Integer.MAX_VALUE;
                    for (int m = 1; m <= c.size(); m++) {
                        Integer next = can(p, c, m) ? cost.get(over(p, c, m)) : null;
                        if (next != null) {
                            best = Math.min(best, next + (byWork ? m : 1));
                        }
                    }
                    if (best < Integer.MAX_VALUE && (cost.get(c) == null || cost.get(c) > best)) {
                        cost.put(c, best);
                        changed = true;
                    }
                }
            }
            return cost;
        });
    }

    private Pile pile(int stack) {
        return stack < 0 || stack >= now.piles.size() ? null : now.piles.get(stack);
    }

    private void change(State next) {
        history.add(now);
        if (history.size() > 4) {
            history.remove(0);
        }
        now = next;
    }

    int stack(int kind, int cakes, int strength) {
        if (kind < 0 || kind > 3 || cakes < 1 || cakes > (kind % 2 == 0 ? 6 : 5)) {
            return INVALID;
        }
        if (kind == 3 ? strength < 1 || strength > 21 : strength != 0) {
            return INVALID;
        }
        if (now.piles.size() == 5) {
            return LIMIT;
        }
        State next = now.copy();
        next.piles.add(new Pile(kind, cakes, strength));
        change(next);
        return next.piles.size() - 1;
    }

    int lay(int stack, int code, int sides) {
        Pile p = pile(stack);
        if (p == null) {
            return INVALID;
        }
        for (List<Integer> c : all(p)) {
            if (code(c) == code && sides(c) == sides) {
                State next = now.copy();
                next.piles.get(stack).cakes = c;
                change(next);
                return gaps(p, c);
            }
        }
        return INVALID;
    }

    int turn(int stack, int many) {
        Pile p = pile(stack);
        if (p == null || many < 1 || many > p.cakes.size()) {
            return INVALID;
        }
        return doRow(stack, many);
    }

    int doRow(int stack, int row) {
        Pile p = pile(stack);
        if (p == null || row <= 0 || String.valueOf(row).length() > 8) {
            return INVALID;
        }
        State next = now.copy();
        for (char digit : String.valueOf(row).toCharArray()) {
            if (!next.make(stack, digit - '0')) {
                return NOT_POSSIBLE;
            }
        }
        change(next);
        return gaps(p, next.piles.get(stack).cakes);
    }

    int stackOf(int stack, int what) {
        Pile p = pile(stack);
        if (p == null || what < 0 || what > 9) {
            return INVALID;
        }
        int possible = 0;
        for (int m = 1; m <= p.cakes.size(); m++) {
            possible += can(p, p.cakes, m) ? 1 << m : 0;
        }
        return new int[] {p.kind, p.cakes.size(), p.strength, code(p.cakes), sides(p.cakes), gaps(p, p.cakes),
            sorted(p.cakes) ? 1 : 0, all(p).indexOf(p.cakes), possible, p.made}[what];
    }

    int cakeAt(int stack, int place) {
        Pile p = pile(stack);
        if (p == null || place < 0 || place >= p.cakes.size()) {
            return INVALID;
        }
        int c = p.cakes.get(place);
        return c > 0 ? c : -c - 10;
    }

    int gapsBehind(int stack, int many) {
        Pile p = pile(stack);
        if (p == null || many < 1 || many > p.cakes.size()) {
            return INVALID;
        }
        return gaps(p, over(p, p.cakes, many));
    }

    int fewest(int stack, int what) {
        Pile p = pile(stack);
        if (p == null || what < 0 || what > 1) {
            return INVALID;
        }
        Integer turns = costs(p, false).get(p.cakes);
        if (turns == null || turns > 9) {
            return NOT_FOUND;
        }
        return what == 0 ? turns : firstRow(p, p.cakes, turns, 0);
    }

    /** All rows of a length are tried, the least one first; those that cannot end in time are left out. */
    private static int firstRow(Pile p, List<Integer> c, int left, int row) {
        if (left == 0) {
            return sorted(c) ? row : -1;
        }
        for (int m = 1; m <= c.size(); m++) {
            Integer rest = can(p, c, m) ? costs(p, false).get(over(p, c, m)) : null;
            int found = rest != null && rest < left ? firstRow(p, over(p, c, m), left - 1, row * 10 + m) : -1;
            if (found >= 0) {
                return found;
            }
        }
        return -1;
    }

    int leastWork(int stack) {
        Pile p = pile(stack);
        if (p == null) {
            return INVALID;
        }
        Integer work = costs(p, true).get(p.cakes);
        return work == null ? NOT_FOUND : work;
    }

    int ways(int stack, int turns) {
        Pile p = pile(stack);
        if (p == null || turns < 0 || turns > 5) {
            return INVALID;
        }
        List<List<Integer>> ends = new ArrayList<>(List.of(p.cakes));
        for (int t = 0; t < turns; t++) {
            List<List<Integer>> next = new ArrayList<>();
            for (List<Integer> c : ends) {
                for (int m = 1; m <= c.size(); m++) {
                    if (can(p, c, m)) {
                        next.add(over(p, c, m));
                    }
                }
            }
            ends = next;
        }
        return (int) ends.stream().filter(c -> sorted(c)).count();
    }

    int lookedAt(int stack, int turns) {
        Pile p = pile(stack);
        if (p == null || turns < 0 || turns > 6) {
            return INVALID;
        }
        if (gaps(p, p.cakes) > turns) {
            return 0;
        }
        // by breadth: the ends of all rows of t turns, and the last turn of each
        List<List<Integer>> ends = new ArrayList<>(List.of(p.cakes));
        List<Integer> lasts = new ArrayList<>(List.of(0));
        int rows = 1;
        for (int t = 1; t <= turns; t++) {
            List<List<Integer>> nextEnds = new ArrayList<>();
            List<Integer> nextLasts = new ArrayList<>();
            for (int i = 0; i < ends.size(); i++) {
                List<Integer> c = ends.get(i);
                for (int m = 1; m <= c.size() && !sorted(c); m++) {
                    if (m != lasts.get(i) && can(p, c, m) && t + gaps(p, over(p, c, m)) <= turns) {
                        nextEnds.add(over(p, c, m));
                        nextLasts.add(m);
                    }
                }
            }
            ends = nextEnds;
            lasts = nextLasts;
            rows += ends.size();
        }
        return rows;
    }

    int simple(int stack, int what) {
        Pile p = pile(stack);
        if (p == null || what < 0 || what > 2) {
            return INVALID;
        }
        List<Integer> c = p.cakes;
        int[] answer = {0, 0, 1};
        while (!sorted(c)) {
            int size = c.size();
            while (c.get(size - 1) == size) {
                size--;
            }
            boolean burnt = c.contains(-size);
            int place = burnt ? c.indexOf(-size) : c.indexOf(size);
            int many;
            if (place != 0 && place != size - 1) {
                many = place + 1;
            } else if (place == size - 1) {
                many = size;
            } else if (!burnt && p.sided()) {
                many = 1;
            } else {
                many = size;
            }
            answer[0]++;
            answer[1] += many;
            answer[2] &= can(p, c, many) ? 1 : 0;
            c = over(p, c, many);
        }
        return answer[what];
    }

    int bestTurn(int stack) {
        Pile p = pile(stack);
        if (p == null) {
            return INVALID;
        }
        for (int g = 0; g <= p.cakes.size(); g++) {
            for (int m = 1; m <= p.cakes.size(); m++) {
                if (can(p, p.cakes, m) && gaps(p, over(p, p.cakes, m)) == g) {
                    return m;
                }
            }
        }
        return NOT_FOUND;
    }

    int ranked(int stack, int rank, int what) {
        Pile p = pile(stack);
        if (p == null || rank < 0 || what < 0 || what > 1) {
            return INVALID;
        }
        if (rank >= all(p).size()) {
            return NOT_FOUND;
        }
        List<Integer> c = all(p).get(rank);
        return what == 0 ? code(c) : sides(c);
    }

    int ofDistance(int stack, int turns) {
        Pile p = pile(stack);
        if (p == null || turns < 0 || turns > 12) {
            return INVALID;
        }
        return Collections.frequency(costs(p, false).values(), turns);
    }

    int count(int what) {
        if (what < 0 || what > 12) {
            return INVALID;
        }
        int sorted = 0;
        int gaps = 0;
        for (Pile p : now.piles) {
            sorted += sorted(p.cakes) ? 1 : 0;
            gaps += gaps(p, p.cakes);
        }
        return new int[] {now.piles.size(), sorted, gaps, now.hand, now.turns[0], now.turns[1], now.turns[2],
            now.work[0], now.work[1], now.work[2], Arrays.stream(now.turns).sum(), history.size(),
            text.length()}[what];
    }

    int undo() {
        if (history.isEmpty()) {
            return NOT_POSSIBLE;
        }
        now = history.remove(history.size() - 1);
        return history.size();
    }

    int type(int character) {
        if (character < 32 || character > 126) {
            return INVALID;
        }
        if (text.length() == 50) {
            return LIMIT;
        }
        text += (char) character;
        return text.length();
    }

    int clearText() {
        int had = text.length();
        text = "";
        return had;
    }

    /** The state behind the turns of the text, or null: then fault holds the position and the reason. */
    private State read(int[] fault) {
        State next = now.copy();
        int at = 0;
        while (at < text.length()) {
            int stack = "ABCDE".indexOf(text.charAt(at));
            if (stack < 0 || stack >= next.piles.size()) {
                return faulty(fault, at, stack < 0 ? 1 : 2);
            }
            int first = ++at;
            while (at < text.length() && "0123456789".indexOf(text.charAt(at)) >= 0) {
                if (!next.make(stack, text.charAt(at) - '0')) {
                    return faulty(fault, at, 3);
                }
                at++;
            }
            if (at == first || at == text.length() || text.charAt(at) != ';') {
                return faulty(fault, at, 1);
            }
            at++;
        }
        return next;
    }

    private static State faulty(int[] fault, int position, int reason) {
        fault[0] = position;
        fault[1] = reason;
        return null;
    }

    int fault(int what) {
        int[] fault = new int[2];
        if (what < 0 || what > 1) {
            return INVALID;
        }
        return read(fault) == null ? fault[what] : NOT_FOUND;
    }

    int play() {
        State next = read(new int[2]);
        if (next == null) {
            return NOT_POSSIBLE;
        }
        change(next);
        return (int) text.chars().filter(c -> c >= '0' && c <= '9').count();
    }
}
