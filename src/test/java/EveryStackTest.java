/** Every shape of a stack that there is, laid in many ways: TurnTops and SlowKitchen must answer the same. */
public final class EveryStackTest extends Checks {
    /** A shape that can lie in no more ways is laid in all of them, another one in about so many. */
    private static final int MOST_LAID = 120;
    /** So that no object is used for more than 512 calls: a stack that is laid takes 46 at most. */
    private static final int LAID_BY_ONE_OBJECT = 11;

    private static int laid = 0;

    public static void main(String[] args) {
        for (int kind = PLAIN; kind <= WEAK; kind++) {
            boolean sided = kind == BURNT || kind == WEAK;
            for (int cakes = 1; cakes <= (sided ? 5 : 6); cakes++) {
                for (int strength = kind == WEAK ? 1 : 0; strength <= (kind == WEAK ? 21 : 0); strength++) {
                    shape(kind, cakes, strength, sided);
                }
            }
        }
        System.out.println(laid + " stacks were laid");
        end();
    }

    private static void shape(int kind, int cakes, int strength, boolean sided) {
        about("kind " + kind + ", " + cakes + " cakes, strength " + strength);
        int ranks = sided ? 1 << cakes : 1;
        for (int i = 2; i <= cakes; i++) {
            ranks *= i;
        }
        distances(kind, cakes, strength, ranks);
        // an odd step, so that stacks of all orders and with all sides come
        int step = ranks <= MOST_LAID ? 1 : ranks / MOST_LAID | 1;
        TurnTops x = null;
        SlowKitchen slow = null;
        int ofThisObject = LAID_BY_ONE_OBJECT;
        for (int rank = 0; rank < ranks; rank += step) {
            if (ofThisObject == LAID_BY_ONE_OBJECT) {
                x = kitchen(kind, cakes, strength);
                slow = new SlowKitchen();
                slow.stack(kind, cakes, strength);
                ofThisObject = 0;
            }
            ofThisObject++;
            lay(x, slow, rank);
            asItLies(x, slow, cakes);
            searches(x, slow);
        }
    }

    private static void distances(int kind, int cakes, int strength, int ranks) {
        TurnTops x = kitchen(kind, cakes, strength);
        SlowKitchen slow = new SlowKitchen();
        slow.stack(kind, cakes, strength);
        for (int turns = 0; turns <= 12; turns++) {
            is("ofDistance " + turns, x.ofDistance(0, turns), slow.ofDistance(0, turns));
        }
        is("as many ranks as there are", x.ranked(0, ranks, 0), NOT_FOUND);
    }

    private static void lay(TurnTops x, SlowKitchen slow, int rank) {
        laid++;
        int code = slow.ranked(0, rank, 0);
        int sides = slow.ranked(0, rank, 1);
        is("code of the rank " + rank, x.ranked(0, rank, 0), code);
        is("sides of the rank " + rank, x.ranked(0, rank, 1), sides);
        is("lay " + code + ", " + sides, x.lay(0, code, sides), slow.lay(0, code, sides));
        is("its rank", x.stackOf(0, 7), rank);
    }

    private static void asItLies(TurnTops x, SlowKitchen slow, int cakes) {
        String which = which(slow);
        for (int what = 0; what <= 9; what++) {
            is(which + "stackOf " + what, x.stackOf(0, what), slow.stackOf(0, what));
        }
        for (int place = 0; place < cakes; place++) {
            is(which + "cakeAt " + place, x.cakeAt(0, place), slow.cakeAt(0, place));
        }
        for (int many = 1; many <= cakes; many++) {
            is(which + "gapsBehind " + many, x.gapsBehind(0, many), slow.gapsBehind(0, many));
        }
        is(which + "bestTurn", x.bestTurn(0), slow.bestTurn(0));
    }

    private static void searches(TurnTops x, SlowKitchen slow) {
        String which = which(slow);
        for (int what = 0; what <= 1; what++) {
            is(which + "fewest " + what, x.fewest(0, what), slow.fewest(0, what));
        }
        is(which + "leastWork", x.leastWork(0), slow.leastWork(0));
        for (int turns = 0; turns <= 5; turns++) {
            is(which + "ways " + turns, x.ways(0, turns), slow.ways(0, turns));
        }
        for (int turns = 0; turns <= 6; turns++) {
            is(which + "lookedAt " + turns, x.lookedAt(0, turns), slow.lookedAt(0, turns));
        }
        for (int what = 0; what <= 2; what++) {
            is(which + "simple " + what, x.simple(0, what), slow.simple(0, what));
        }
    }

    private static String which(SlowKitchen slow) {
        return slow.stackOf(0, 3) + " with the sides " + slow.stackOf(0, 4) + ", ";
    }
}
