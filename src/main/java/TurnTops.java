/**
 * A kitchen with stacks of cakes that are sorted by turning over their tops.
 *
 * A stack is held as its shape (kind, cakes, strength) and its rank among all stacks of its kind; the sorted
 * stack has the rank 0, because its code is the least one and it has no burnt side above.
 */
public final class TurnTops {
    public static final int INVALID_ARGUMENT = -1000001;
    public static final int NOT_POSSIBLE = -1000002;
    public static final int LIMIT_REACHED = -1000003;
    public static final int NOT_FOUND = -1000004;

    private static final int PLAIN = 0;
    private static final int BURNT = 1;
    private static final int GLUED = 2;
    private static final int WEAK = 3;

    private static final int MOST_STACKS = 5;
    private static final int MOST_CAKES = 6;
    private static final int MOST_SIDED_CAKES = 5;
    private static final int MOST_STRENGTH = 21;
    private static final int MOST_STATES = 4;
    private static final int MOST_SIGNS = 50;
    private static final int HANDS = 3;
    private static final int MOST_ROW = 99999999;
    /** What the first digit of a row of 8 turns counts for. */
    private static final int FIRST_OF_ROW = 10000000;
    private static final int MOST_FEWEST = 9;
    private static final int MOST_WAYS_TURNS = 5;
    private static final int MOST_LOOKED_TURNS = 6;
    private static final int MOST_DISTANCE = 12;

    private static final int SORTED = 0;
    private static final int NONE = -1;

    private final Shelf shelf = new Shelf();
    private final Text text = new Text();
    private final Kitchen now = new Kitchen();
    /** Changes are tried here first, so that a call that fails has changed nothing. */
    private final Kitchen trial = new Kitchen();
    private final Kitchen[] history = new Kitchen[MOST_STATES];
    private int states = 0;

    public TurnTops() {
        for (int i = 0; i < history.length; i++) {
            history[i] = new Kitchen();
        }
    }

    // ---- stacks and turns

    public int stack(int kind, int cakes, int strength) {
        Shape shape = shelf.shape(kind, cakes, strength);
        if (shape == null) {
            return INVALID_ARGUMENT;
        }
        trial.copyFrom(now);
        int number = trial.add(shape);
        if (number == NONE) {
            return LIMIT_REACHED;
        }
        keepTrial();
        return number;
    }

    public int lay(int stack, int code, int sides) {
        Shape shape = now.shapeOf(stack);
        if (shape == null) {
            return INVALID_ARGUMENT;
        }
        int rank = shape.layouts.rankOf(code, sides);
        if (rank == NONE) {
            return INVALID_ARGUMENT;
        }
        trial.copyFrom(now);
        trial.putRank(stack, rank);
        keepTrial();
        return shape.layouts.gaps(rank);
    }

    public int turn(int stack, int many) {
        Shape shape = now.shapeOf(stack);
        if (shape == null || many < 1 || many > shape.cakes) {
            return INVALID_ARGUMENT;
        }
        trial.copyFrom(now);
        if (!trial.makeTurn(stack, many)) {
            return NOT_POSSIBLE;
        }
        keepTrial();
        return shape.layouts.gaps(now.rankOf(stack));
    }

    public int doRow(int stack, int row) {
        Shape shape = now.shapeOf(stack);
        if (shape == null || row < 1 || row > MOST_ROW) {
            return INVALID_ARGUMENT;
        }
        trial.copyFrom(now);
        if (!trial.makeRow(stack, row)) {
            return NOT_POSSIBLE;
        }
        keepTrial();
        return shape.layouts.gaps(now.rankOf(stack));
    }

    public int stackOf(int stack, int what) {
        Shape shape = now.shapeOf(stack);
        if (shape == null) {
            return INVALID_ARGUMENT;
        }
        int rank = now.rankOf(stack);
        switch (what) {
            case 0: return shape.kind;
            case 1: return shape.cakes;
            case 2: return shape.strength;
            case 3: return shape.layouts.codeOf(rank);
            case 4: return shape.layouts.sidesOf(rank);
            case 5: return shape.layouts.gaps(rank);
            case 6: return rank == SORTED ? 1 : 0;
            case 7: return rank;
            case 8: return shape.possibleTurns(rank);
            case 9: return now.madeOf(stack);
            default: return INVALID_ARGUMENT;
        }
    }

    public int cakeAt(int stack, int place) {
        Shape shape = now.shapeOf(stack);
        if (shape == null || place < 0 || place >= shape.cakes) {
            return INVALID_ARGUMENT;
        }
        int rank = now.rankOf(stack);
        int size = shape.layouts.sizeAt(rank, place);
        return shape.layouts.isBurnt(rank, place) ? size - 10 : size;
    }

    // ---- what would be

    public int gapsBehind(int stack, int many) {
        Shape shape = now.shapeOf(stack);
        if (shape == null || many < 1 || many > shape.cakes) {
            return INVALID_ARGUMENT;
        }
        return shape.layouts.gaps(shape.layouts.behind(now.rankOf(stack), many));
    }

    public int fewest(int stack, int what) {
        Shape shape = now.shapeOf(stack);
        if (shape == null || what < 0 || what > 1) {
            return INVALID_ARGUMENT;
        }
        Solver solver = shape.solver();
        int rank = now.rankOf(stack);
        int turns = solver.turnsFrom(rank);
        if (turns == NONE || turns > MOST_FEWEST) {
            return NOT_FOUND;
        }
        return what == 0 ? turns : solver.firstRow(rank);
    }

    public int leastWork(int stack) {
        Shape shape = now.shapeOf(stack);
        if (shape == null) {
            return INVALID_ARGUMENT;
        }
        int work = shape.solver().workFrom(now.rankOf(stack));
        return work == NONE ? NOT_FOUND : work;
    }

    public int ways(int stack, int turns) {
        Shape shape = now.shapeOf(stack);
        if (shape == null || turns < 0 || turns > MOST_WAYS_TURNS) {
            return INVALID_ARGUMENT;
        }
        return shape.solver().sortingRows(now.rankOf(stack), turns);
    }

    public int lookedAt(int stack, int turns) {
        Shape shape = now.shapeOf(stack);
        if (shape == null || turns < 0 || turns > MOST_LOOKED_TURNS) {
            return INVALID_ARGUMENT;
        }
        return shape.solver().searchedRows(now.rankOf(stack), turns);
    }

    public int simple(int stack, int what) {
        Shape shape = now.shapeOf(stack);
        if (shape == null || what < 0 || what > 2) {
            return INVALID_ARGUMENT;
        }
        return shape.solver().simpleWay(now.rankOf(stack), what);
    }

    public int bestTurn(int stack) {
        Shape shape = now.shapeOf(stack);
        if (shape == null) {
            return INVALID_ARGUMENT;
        }
        int best = shape.turnToFewestGaps(now.rankOf(stack));
        return best == NONE ? NOT_FOUND : best;
    }

    public int ranked(int stack, int rank, int what) {
        Shape shape = now.shapeOf(stack);
        if (shape == null || rank < 0 || what < 0 || what > 1) {
            return INVALID_ARGUMENT;
        }
        if (rank >= shape.layouts.ranks) {
            return NOT_FOUND;
        }
        return what == 0 ? shape.layouts.codeOf(rank) : shape.layouts.sidesOf(rank);
    }

    public int ofDistance(int stack, int turns) {
        Shape shape = now.shapeOf(stack);
        if (shape == null || turns < 0 || turns > MOST_DISTANCE) {
            return INVALID_ARGUMENT;
        }
        return shape.solver().stacksWithTurns(turns);
    }

    public int count(int what) {
        switch (what) {
            case 0: return now.stacks;
            case 1: return now.sortedStacks();
            case 2: return now.allGaps();
            case 3: return now.hand;
            case 4:
            case 5:
            case 6: return at(now.handTurns, what - 4);
            case 7:
            case 8:
            case 9: return at(now.handWork, what - 7);
            case 10: return now.allTurns();
            case 11: return states;
            case 12: return text.length;
            default: return INVALID_ARGUMENT;
        }
    }

    public int undo() {
        Kitchen before = stateAt(states - 1);
        if (before == null) {
            return NOT_POSSIBLE;
        }
        states--;
        now.copyFrom(before);
        return states;
    }

    // ---- texts

    public int type(int character) {
        if (character < 32 || character > 126) {
            return INVALID_ARGUMENT;
        }
        return text.append(character) ? text.length : LIMIT_REACHED;
    }

    public int clearText() {
        return text.empty();
    }

    public int fault(int what) {
        if (what < 0 || what > 1) {
            return INVALID_ARGUMENT;
        }
        trial.copyFrom(now);
        text.readInto(trial);
        if (text.reason == 0) {
            return NOT_FOUND;
        }
        return what == 0 ? text.faultPlace : text.reason;
    }

    public int play() {
        trial.copyFrom(now);
        text.readInto(trial);
        if (text.reason != 0) {
            return NOT_POSSIBLE;
        }
        keepTrial();
        return text.turns;
    }

    // ---- the parts

    /** Makes the trial the present state, and records the one before it. */
    private void keepTrial() {
        if (states >= history.length) {
            dropOldestState();
        }
        Kitchen before = stateAt(states);
        if (before != null) {
            before.copyFrom(now);
            states++;
        }
        now.copyFrom(trial);
    }

    /** The oldest state goes to the end, where its place is used again. */
    private void dropOldestState() {
        for (int i = 1; i < history.length; i++) {
            Kitchen oldest = history[i - 1];
            history[i - 1] = history[i];
            history[i] = oldest;
        }
        states = history.length - 1;
    }

    /** The place for a state of the history, the oldest one first; null if there is none. */
    private Kitchen stateAt(int index) {
        return index >= 0 && index < history.length ? history[index] : null;
    }

    /** What stands at an index of a row, or 0 outside of it: no index can fail. */
    private static int at(int[] row, int index) {
        return index >= 0 && index < row.length ? row[index] : 0;
    }

    /** Puts a value at an index of a row, or nowhere outside of it. */
    private static void put(int[] row, int index, int value) {
        if (index >= 0 && index < row.length) {
            row[index] = value;
        }
    }

    private static int[] newRow(int length) {
        return new int[Math.max(length, 0)];
    }

    private static void copy(int[] from, int[] to) {
        for (int i = 0; i < from.length && i < to.length; i++) {
            to[i] = from[i];
        }
    }

    /** All ways in which some cakes may lie, numbered by their ranks; with or without burnt sides. */
    private static final class Layouts {
        /** Far more halvings than a search among 720 codes can need. */
        private static final int MOST_HALVINGS = 20;

        final int cakes;
        /** How many ranks there are. */
        final int ranks;
        /** The low bits of a rank that hold the sides; those ahead of them hold the order of the cakes. */
        private final int sideBits;
        private final int allSides;
        /** The codes of the orders, rising. */
        private final int[] codes;
        /** For each order the sizes from the top to the bottom. */
        private final int[] sizes;
        /** For each rank the ranks behind the turns of 1, 2, .. cakes. */
        private final int[] turned;
        /** For each rank the set of places whose cake is joined with what is right below it. */
        private final int[] joined;

        Layouts(int cakes, boolean sided) {
            this.cakes = cakes;
            sideBits = sided ? cakes : 0;
            allSides = (1 << sideBits) - 1;
            int orders = 1;
            for (int i = 2; i <= cakes; i++) {
                orders *= i;
            }
            ranks = orders << sideBits;
            codes = newRow(orders);
            sizes = newRow(orders * cakes);
            turned = newRow(ranks * cakes);
            joined = newRow(ranks);
            fillCodes(codes, 0, cakes, 0, 0, 0);
            for (int order = 0; order < codes.length; order++) {
                fillSizes(order);
                fillTurned(order);
            }
            for (int rank = 0; rank < joined.length; rank++) {
                for (int place = 0; place < cakes; place++) {
                    joined[rank] |= findJoined(rank, place) ? 1 << place : 0;
                }
            }
        }

        /**
         * Fills in, from an index on, all codes that begin with some sizes (used, as a set); returns the index behind
         * them. The depth is at most the cakes.
         */
        private static int fillCodes(int[] codes, int index, int cakes, int begin, int used, int depth) {
            if (depth >= cakes) {
                put(codes, index, begin);
                return index + 1;
            }
            int next = index;
            for (int size = 1; size <= cakes; size++) {
                if ((used & (1 << size)) == 0) {
                    next = fillCodes(codes, next, cakes, begin * 10 + size, used | (1 << size), depth + 1);
                }
            }
            return next;
        }

        private void fillSizes(int order) {
            int rest = at(codes, order);
            for (int place = cakes - 1; place >= 0; place--) {
                put(sizes, order * cakes + place, rest % 10);
                rest /= 10;
            }
        }

        private void fillTurned(int order) {
            for (int many = 1; many <= cakes; many++) {
                int begin = orderOf(codeBehind(order, many)) << sideBits;
                for (int sides = 0; sides <= allSides; sides++) {
                    int rank = (order << sideBits) | sides;
                    put(turned, rank * cakes + many - 1, begin | sidesBehind(sides, many));
                }
            }
        }

        private int codeBehind(int order, int many) {
            int code = 0;
            for (int place = 0; place < cakes; place++) {
                int from = place < many ? many - 1 - place : place;
                code = code * 10 + at(sizes, order * cakes + from);
            }
            return code;
        }

        private int sidesBehind(int sides, int many) {
            if (sideBits == 0) {
                return 0;
            }
            int behind = sides >> many << many;
            for (int place = 0; place < many; place++) {
                int shown = (sides >> place) & 1;
                behind |= (1 - shown) << (many - 1 - place);
            }
            return behind;
        }

        private boolean findJoined(int rank, int place) {
            int upper = sizeAt(rank, place);
            boolean burnt = isBurnt(rank, place);
            if (place == cakes - 1) {
                return upper == cakes && !burnt;
            }
            int rise = sizeAt(rank, place + 1) - upper;
            if (sideBits == 0) {
                return rise == 1 || rise == -1;
            }
            return burnt == isBurnt(rank, place + 1) && rise == (burnt ? -1 : 1);
        }

        /** The order with a code; NONE if there is none. */
        private int orderOf(int code) {
            int low = 0;
            int high = codes.length - 1;
            for (int i = 0; i < MOST_HALVINGS && low <= high; i++) {
                int middle = (low + high) >>> 1;
                int found = at(codes, middle);
                if (found == code) {
                    return middle;
                }
                if (found < code) {
                    low = middle + 1;
                } else {
                    high = middle - 1;
                }
            }
            return NONE;
        }

        /** The rank with a code and sides; NONE if there is none. */
        int rankOf(int code, int sides) {
            int order = orderOf(code);
            if (order == NONE || sides < 0 || sides > allSides) {
                return NONE;
            }
            return (order << sideBits) | sides;
        }

        int codeOf(int rank) {
            return at(codes, rank >> sideBits);
        }

        int sidesOf(int rank) {
            return rank & allSides;
        }

        int sizeAt(int rank, int place) {
            return at(sizes, (rank >> sideBits) * cakes + place);
        }

        boolean isBurnt(int rank, int place) {
            return ((rank & allSides) >> place & 1) != 0;
        }

        /** The rank behind a turn, whether it is possible or not. */
        int behind(int rank, int many) {
            return at(turned, rank * cakes + many - 1);
        }

        boolean isJoined(int rank, int place) {
            return (at(joined, rank) >> place & 1) != 0;
        }

        int gaps(int rank) {
            return cakes - Integer.bitCount(at(joined, rank));
        }

        /** The next turn of the simple way; NONE if the stack is sorted. */
        int simpleTurn(int rank) {
            for (int size = cakes; size >= 1; size--) {
                int place = placeOf(rank, size);
                if (place != size - 1 || isBurnt(rank, place)) {
                    return simpleTurnFor(size, place, isBurnt(rank, place));
                }
            }
            return NONE;
        }

        private int simpleTurnFor(int size, int place, boolean burnt) {
            if (place == size - 1) {
                return size;
            }
            if (place > 0) {
                return place + 1;
            }
            return sideBits > 0 && !burnt ? 1 : size;
        }

        private int placeOf(int rank, int size) {
            for (int place = 0; place < cakes; place++) {
                if (sizeAt(rank, place) == size) {
                    return place;
                }
            }
            return NONE;
        }
    }

    /** What the stacks of one kind, with as many cakes and of one strength, have in common. */
    private static final class Shape {
        final int kind;
        final int strength;
        final int cakes;
        final Layouts layouts;
        /** For each rank the set of the turns that are possible. */
        private final int[] possible;
        private Solver solver = null;

        Shape(int kind, int strength, Layouts layouts) {
            this.kind = kind;
            this.strength = strength;
            this.layouts = layouts;
            cakes = layouts.cakes;
            possible = newRow(layouts.ranks);
            for (int rank = 0; rank < possible.length; rank++) {
                possible[rank] = findPossible(rank);
            }
        }

        private int findPossible(int rank) {
            int set = 0;
            int weight = 0;
            for (int many = 1; many <= cakes; many++) {
                weight += layouts.sizeAt(rank, many - 1);
                boolean stuck = kind == GLUED && layouts.isJoined(rank, many - 1);
                boolean tooHeavy = kind == WEAK && weight > strength;
                if (!stuck && !tooHeavy) {
                    set |= 1 << many;
                }
            }
            return set;
        }

        /** Made when it is first asked for: most of the work is in its rows. */
        Solver solver() {
            if (solver == null) {
                solver = new Solver(this);
            }
            return solver;
        }

        int possibleTurns(int rank) {
            return at(possible, rank);
        }

        boolean allows(int rank, int many) {
            return many >= 1 && many <= cakes && (at(possible, rank) >> many & 1) != 0;
        }

        /** The least of the possible turns behind which the gaps are fewest; NONE if none is possible. */
        int turnToFewestGaps(int rank) {
            int best = NONE;
            int fewestGaps = 0;
            for (int many = 1; many <= cakes; many++) {
                if (allows(rank, many)) {
                    int gaps = layouts.gaps(layouts.behind(rank, many));
                    if (best == NONE || gaps < fewestGaps) {
                        best = many;
                        fewestGaps = gaps;
                    }
                }
            }
            return best;
        }
    }

    /** Rows of turns that lead from the stacks of one shape to the sorted one. */
    private static final class Solver {
        /** More than any least work: no such row comes to one of 3840 stacks twice, each turn is of at most 5. */
        private static final int MOST_WORK = 20000;
        /** Far more than the simple way can take: it makes at most 3 turns for a cake. */
        private static final int MOST_SIMPLE_TURNS = 100;

        private final Shape shape;
        private final Layouts layouts;
        /** The fewest turns from each rank, NONE if there is no way; filled in when they are first asked for. */
        private final int[] turnCosts;
        private boolean turnsKnown = false;
        /** The least work from each rank, as the turns. */
        private final int[] workCosts;
        private boolean workKnown = false;

        Solver(Shape shape) {
            this.shape = shape;
            layouts = shape.layouts;
            turnCosts = newRow(layouts.ranks);
            workCosts = newRow(layouts.ranks);
        }

        int turnsFrom(int rank) {
            if (!turnsKnown) {
                fillCosts(turnCosts, false);
                turnsKnown = true;
            }
            return at(turnCosts, rank);
        }

        int workFrom(int rank) {
            if (!workKnown) {
                fillCosts(workCosts, true);
                workKnown = true;
            }
            return at(workCosts, rank);
        }

        int stacksWithTurns(int turns) {
            int stacks = 0;
            for (int rank = 0; rank < layouts.ranks; rank++) {
                if (turnsFrom(rank) == turns) {
                    stacks++;
                }
            }
            return stacks;
        }

        /** The first of the shortest rows that sort a stack; 0 if there is none. */
        int firstRow(int rank) {
            int row = 0;
            int here = rank;
            for (int left = turnsFrom(rank); left > 0; left--) {
                int many = firstTurnToward(here, left - 1);
                row = row * 10 + many;
                here = layouts.behind(here, many);
            }
            return row;
        }

        private int firstTurnToward(int rank, int turnsLeft) {
            for (int many = 1; many <= shape.cakes; many++) {
                if (shape.allows(rank, many) && at(turnCosts, layouts.behind(rank, many)) == turnsLeft) {
                    return many;
                }
            }
            return NONE;
        }

        /** Fills in the least costs of the rows from each rank, where a turn costs its number of cakes, or 1. */
        private void fillCosts(int[] costs, boolean byWork) {
            for (int rank = 0; rank < costs.length; rank++) {
                costs[rank] = NONE;
            }
            put(costs, SORTED, 0);
            int greatest = 0;
            for (int cost = 0; cost <= greatest && cost <= MOST_WORK; cost++) {
                for (int rank = 0; rank < costs.length; rank++) {
                    if (costs[rank] == cost) {
                        greatest = Math.max(greatest, spreadCost(costs, rank, byWork));
                    }
                }
            }
        }

        /**
         * Lowers the costs of the ranks from which one turn leads to a rank; returns the greatest cost that was set.
         * A turn leads back if it is made again, but it must have been possible where it came from.
         */
        private int spreadCost(int[] costs, int rank, boolean byWork) {
            int greatest = 0;
            for (int many = 1; many <= shape.cakes; many++) {
                int from = layouts.behind(rank, many);
                int cost = at(costs, rank) + (byWork ? many : 1);
                int known = at(costs, from);
                if ((known == NONE || known > cost) && shape.allows(from, many)) {
                    put(costs, from, cost);
                    greatest = Math.max(greatest, cost);
                }
            }
            return greatest;
        }

        /** How many rows of just so many turns sort a stack. */
        int sortingRows(int rank, int turns) {
            return countSorting(shape, rank, turns);
        }

        /** The depth is the turns that are left. */
        private static int countSorting(Shape shape, int rank, int left) {
            // A turn takes away one gap at most, so a stack with more gaps than turns left isn't sorted in time.
            if (shape.layouts.gaps(rank) > left) {
                return 0;
            }
            if (left <= 0) {
                return 1;
            }
            int rows = 0;
            for (int many = 1; many <= shape.cakes; many++) {
                if (shape.allows(rank, many)) {
                    rows += countSorting(shape, shape.layouts.behind(rank, many), left - 1);
                }
            }
            return rows;
        }

        /** How many rows of so many turns at most the search that is cut off by gaps looks at. */
        int searchedRows(int rank, int turns) {
            return countSearched(shape, rank, NONE, turns);
        }

        /** Counts the rows that go on behind a last turn; the depth is the turns that are left. */
        private static int countSearched(Shape shape, int rank, int last, int left) {
            if (shape.layouts.gaps(rank) > left) {
                return 0;
            }
            int rows = 1;
            if (rank == SORTED || left <= 0) {
                return rows;
            }
            for (int many = 1; many <= shape.cakes; many++) {
                if (many != last && shape.allows(rank, many)) {
                    rows += countSearched(shape, shape.layouts.behind(rank, many), many, left - 1);
                }
            }
            return rows;
        }

        /** The turns of the simple way (what 0), its work (1), or 1 if all its turns are possible (2). */
        int simpleWay(int rank, int what) {
            int here = rank;
            int turns = 0;
            int work = 0;
            int possible = 1;
            for (int i = 0; i < MOST_SIMPLE_TURNS && here != SORTED; i++) {
                int many = layouts.simpleTurn(here);
                if (!shape.allows(here, many)) {
                    possible = 0;
                }
                turns++;
                work += many;
                here = layouts.behind(here, many);
            }
            if (what == 2) {
                return possible;
            }
            return what == 1 ? work : turns;
        }
    }

    /** The layouts and shapes that were needed so far: each is made once, and used again. */
    private static final class Shelf {
        private final Layouts[] plainLayouts = new Layouts[MOST_CAKES + 1];
        private final Layouts[] sidedLayouts = new Layouts[MOST_SIDED_CAKES + 1];
        private final Shape[] shapes = new Shape[(WEAK + 1) * (MOST_CAKES + 1) * (MOST_STRENGTH + 1)];

        /** The shape of a kind; null if there is no such one. */
        Shape shape(int kind, int cakes, int strength) {
            if (kind < PLAIN || kind > WEAK || cakes < 1 || cakes > mostCakes(kind)) {
                return null;
            }
            if (strength < (kind == WEAK ? 1 : 0) || strength > (kind == WEAK ? MOST_STRENGTH : 0)) {
                return null;
            }
            Layouts layouts = layouts(cakes, isSided(kind));
            int index = (kind * (MOST_CAKES + 1) + cakes) * (MOST_STRENGTH + 1) + strength;
            if (layouts == null || index < 0 || index >= shapes.length) {
                return null;
            }
            if (shapes[index] == null) {
                shapes[index] = new Shape(kind, strength, layouts);
            }
            return shapes[index];
        }

        private Layouts layouts(int cakes, boolean sided) {
            Layouts[] known = sided ? sidedLayouts : plainLayouts;
            if (cakes < 0 || cakes >= known.length) {
                return null;
            }
            if (known[cakes] == null) {
                known[cakes] = new Layouts(cakes, sided);
            }
            return known[cakes];
        }

        private static boolean isSided(int kind) {
            return kind == BURNT || kind == WEAK;
        }

        private static int mostCakes(int kind) {
            return isSided(kind) ? MOST_SIDED_CAKES : MOST_CAKES;
        }
    }

    /** Everything that a change records: the stacks and the hands. */
    private static final class Kitchen {
        int stacks = 0;
        int hand = 0;
        final int[] handTurns = new int[HANDS];
        final int[] handWork = new int[HANDS];
        private final Shape[] shapes = new Shape[MOST_STACKS];
        private final int[] ranks = new int[MOST_STACKS];
        private final int[] made = new int[MOST_STACKS];

        void copyFrom(Kitchen other) {
            stacks = other.stacks;
            hand = other.hand;
            for (int i = 0; i < shapes.length && i < other.shapes.length; i++) {
                shapes[i] = other.shapes[i];
            }
            copy(other.ranks, ranks);
            copy(other.made, made);
            copy(other.handTurns, handTurns);
            copy(other.handWork, handWork);
        }

        /** The shape of a stack; null if there is no such stack. */
        Shape shapeOf(int stack) {
            return stack >= 0 && stack < stacks && stack < shapes.length ? shapes[stack] : null;
        }

        int rankOf(int stack) {
            return at(ranks, stack);
        }

        int madeOf(int stack) {
            return at(made, stack);
        }

        void putRank(int stack, int rank) {
            put(ranks, stack, rank);
        }

        /** Adds a sorted stack, and returns its number; NONE if there is no place for it. */
        int add(Shape shape) {
            if (stacks < 0 || stacks >= shapes.length) {
                return NONE;
            }
            int number = stacks;
            shapes[number] = shape;
            put(ranks, number, SORTED);
            put(made, number, 0);
            stacks++;
            return number;
        }

        /** Makes a turn, unless it is not possible: returns whether it is. */
        boolean makeTurn(int stack, int many) {
            Shape shape = shapeOf(stack);
            if (shape == null || !shape.allows(rankOf(stack), many)) {
                return false;
            }
            putRank(stack, shape.layouts.behind(rankOf(stack), many));
            put(made, stack, madeOf(stack) + 1);
            put(handTurns, hand, at(handTurns, hand) + 1);
            put(handWork, hand, at(handWork, hand) + many);
            hand = hand + 1 < HANDS ? hand + 1 : 0;
            return true;
        }

        /** Makes the turns of a row up to the first one that is not possible: returns whether all are. */
        boolean makeRow(int stack, int row) {
            for (int digit = FIRST_OF_ROW; digit >= 1; digit /= 10) {
                if (digit <= row && !makeTurn(stack, row / digit % 10)) {
                    return false;
                }
            }
            return true;
        }

        int sortedStacks() {
            int sorted = 0;
            for (int stack = 0; stack < stacks; stack++) {
                if (rankOf(stack) == SORTED) {
                    sorted++;
                }
            }
            return sorted;
        }

        int allGaps() {
            int gaps = 0;
            for (int stack = 0; stack < stacks; stack++) {
                Shape shape = shapeOf(stack);
                if (shape != null) {
                    gaps += shape.layouts.gaps(rankOf(stack));
                }
            }
            return gaps;
        }

        int allTurns() {
            int turns = 0;
            for (int i = 0; i < handTurns.length; i++) {
                turns += handTurns[i];
            }
            return turns;
        }
    }

    /** A text of orders, and what was found when it was last read. */
    private static final class Text {
        private static final int WRONG_FORM = 1;
        private static final int NO_SUCH_STACK = 2;
        private static final int NO_SUCH_TURN = 3;

        int length = 0;
        /** Why the text has a fault, 0 if it has none. */
        int reason = 0;
        int faultPlace = 0;
        int turns = 0;
        private final int[] signs = new int[MOST_SIGNS];
        /** The stack of the order that is being read, NONE between orders. */
        private int openStack = NONE;
        private int turnsOfOrder = 0;

        boolean append(int sign) {
            if (length >= signs.length) {
                return false;
            }
            put(signs, length, sign);
            length++;
            return true;
        }

        int empty() {
            int had = length;
            length = 0;
            return had;
        }

        /** Makes the turns of the text in a kitchen, up to the first fault. */
        void readInto(Kitchen kitchen) {
            reason = 0;
            turns = 0;
            openStack = NONE;
            for (int place = 0; place < length && reason == 0; place++) {
                faultPlace = place;
                reason = readSign(at(signs, place), kitchen);
            }
            if (reason == 0 && openStack != NONE) {
                faultPlace = length;
                reason = WRONG_FORM;
            }
        }

        /** Reads one sign; returns the reason why it is not possible there, 0 if it is. */
        private int readSign(int sign, Kitchen kitchen) {
            if (openStack == NONE) {
                return openOrder(sign, kitchen);
            }
            if (sign >= '0' && sign <= '9') {
                return readTurn(sign - '0', kitchen);
            }
            if (sign != ';' || turnsOfOrder == 0) {
                return WRONG_FORM;
            }
            openStack = NONE;
            return 0;
        }

        private int openOrder(int sign, Kitchen kitchen) {
            if (sign < 'A' || sign >= 'A' + MOST_STACKS) {
                return WRONG_FORM;
            }
            if (kitchen.shapeOf(sign - 'A') == null) {
                return NO_SUCH_STACK;
            }
            openStack = sign - 'A';
            turnsOfOrder = 0;
            return 0;
        }

        private int readTurn(int many, Kitchen kitchen) {
            if (!kitchen.makeTurn(openStack, many)) {
                return NO_SUCH_TURN;
            }
            turnsOfOrder++;
            turns++;
            return 0;
        }
    }
}
