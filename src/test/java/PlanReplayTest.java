/**
 * Promises 21 to 23 against dyeing itself: each order of a plan is really dyed in a dyehouse of its own that was
 * made by the same calls, cleaning where reason says 's' or 'b', and the clock tells the hours.
 */
public final class PlanReplayTest {
    private static final int ORDERS = 6;
    private static final int LOTS = 10;

    private final int[] lightOf = new int[ORDERS];
    private final int[] customerOf = new int[ORDERS];
    private final int[] orderOf = new int[LOTS];
    private final int[] weightOf = new int[LOTS];
    private final int lightAtFirst;
    private final boolean dyedAtFirst;
    private final boolean passedAtFirst;
    private final int[] sequence;
    private int least = Integer.MAX_VALUE;
    private int first;

    private PlanReplayTest(int seed) {
        Dice dice = new Dice(seed);
        for (int order = 0; order < ORDERS; order++) {
            lightOf[order] = 8 + dice.below(5);
            customerOf[order] = dice.below(4);
        }
        for (int lot = 0; lot < LOTS; lot++) {
            orderOf[lot] = dice.below(ORDERS);
            weightOf[lot] = 1 + dice.below(200);
        }
        lightAtFirst = 7 + dice.below(7);
        dyedAtFirst = dice.below(3) > 0;
        passedAtFirst = dice.below(3) > 0;
        sequence = new int[1 + dice.below(6)];
        for (int place = 0; place < sequence.length; place++) {
            sequence[place] = LOTS - 1 - place;
        }
    }

    public static void main(String[] args) {
        for (int seed = 0; seed < 300; seed++) {
            new PlanReplayTest(seed).compare(seed);
        }
        Check.close();
    }

    private void compare(int seed) {
        DyehouseLedger d = made();
        for (int lot : sequence) {
            d.plan(lot, 0);
        }
        trySequences(0);
        Check.due("leastHours of " + seed, d.leastHours(0), least);
        Check.due("leastByAll of " + seed, d.leastByAll(0), least);
        Check.due("firstOf of " + seed, d.firstOf(0), first);
        Check.due("leastHours again", d.leastHours(0), least);
    }

    private DyehouseLedger made() {
        DyehouseLedger d = new DyehouseLedger();
        d.addVat(300);
        for (int order = 0; order < ORDERS; order++) {
            d.addRecipe(lightOf[order], 10, 10);
            d.addOrder(customerOf[order], order, 30, 9, 1);
        }
        for (int lot = 0; lot < LOTS; lot++) {
            d.addLot(orderOf[lot], weightOf[lot]);
        }
        if (dyedAtFirst) {
            d.dye(0, 0, lightAtFirst, 10, 10);
        }
        if (dyedAtFirst && passedAtFirst) {
            d.judge(0);
        }
        return d;
    }

    private void trySequences(int place) {
        if (place == sequence.length) {
            note(hoursInSequence());
        }
        for (int other = place; other < sequence.length; other++) {
            swap(place, other);
            trySequences(place + 1);
            swap(place, other);
        }
    }

    private void swap(int one, int two) {
        int lot = sequence[one];
        sequence[one] = sequence[two];
        sequence[two] = lot;
    }

    private int hoursInSequence() {
        DyehouseLedger d = made();
        int start = d.clock(0);
        for (int lot : sequence) {
            char reason = d.reason(lot, 0);
            if (reason == 's' || reason == 'b') {
                d.clean(0);
            }
            d.dye(lot, 0, lightOf[orderOf[lot]], 10, 10);
        }
        return d.clock(0) - start;
    }

    private void note(int hours) {
        if (hours < least || hours == least && sequence[0] < first) {
            least = hours;
            first = sequence[0];
        }
    }
}
