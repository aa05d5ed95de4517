import java.util.NoSuchElementException;

/** Promises 14 to 16, 36, 39 and 44: judging, bars and lots made to wait again. */
public final class JudgingTest {
    public static void main(String[] args) {
        farOffComesBeforeApart();
        onlyPassedLotsOfTheOrderCount();
        aPassedLotBarsItsVat();
        aCleanedVatIsNotBarred();
        refusedLotsWaitAgain();
        statesAreKept();
        spreadIsOfPassedLots();
        theShareOfPassedLots();
        Check.close();
    }

    private static DyehouseLedger withOrders(int bound) {
        DyehouseLedger d = new DyehouseLedger();
        d.addRecipe(10, 10, 10);
        d.addOrder(1, 0, bound, 9, 1);
        d.addOrder(2, 0, bound, 9, 1);
        d.addVat(300);
        d.addVat(300);
        return d;
    }

    private static int dyed(DyehouseLedger d, int order, int vat, int light, int red, int blue) {
        int lot = d.addLot(order, 10);
        d.clean(vat);
        d.dye(lot, vat, light, red, blue);
        return lot;
    }

    private static void farOffComesBeforeApart() {
        DyehouseLedger d = withOrders(4);
        Check.due("first lot", dyed(d, 0, 0, 12, 8, 10), 0);
        Check.due("at the bound", d.verdict(0), 'p');
        Check.due("judge(0)", d.judge(0), true);
        dyed(d, 0, 0, 10, 10, 15);
        Check.due("over the bound", d.verdict(1), 'f');
        dyed(d, 0, 0, 10, 10, 11);
        Check.due("one apart from a passed lot", d.verdict(2), 'a');
        dyed(d, 0, 0, 10, 10, 10);
        Check.due("just not apart", d.verdict(3), 'p');
        dyed(d, 0, 0, 0, 0, 0);
        Check.due("too far off and apart", d.verdict(4), 'f');
        boolean[] due = {false, false, true, false};
        char[] state = {'x', 'x', 'p', 'x'};
        for (int lot = 1; lot < 5; lot++) {
            Check.due("judge(" + lot + ")", d.judge(lot), due[lot - 1]);
            Check.due("stateOf(" + lot + ")", d.stateOf(lot), state[lot - 1]);
        }
    }

    private static void onlyPassedLotsOfTheOrderCount() {
        DyehouseLedger d = withOrders(3);
        dyed(d, 0, 0, 13, 10, 10);
        dyed(d, 1, 1, 7, 10, 10);
        Check.due("a lot only dyed does not count", d.verdict(0), 'p');
        d.judge(1);
        Check.due("nor one of another order", d.verdict(0), 'p');
        Check.due("a verdict judges nothing", d.stateOf(0), 'd');
        dyed(d, 0, 1, 7, 10, 10);
        Check.due("as long as the other is not passed", d.verdict(2), 'p');
        d.judge(0);
        Check.due("once it is passed", d.verdict(2), 'a');
    }

    private static void aPassedLotBarsItsVat() {
        DyehouseLedger d = withOrders(3);
        d.addLot(0, 10);
        d.addLot(1, 10);
        d.addLot(0, 10);
        d.dye(0, 0, 10, 10, 10);
        d.dye(1, 0, 10, 10, 10);
        Check.due("judge(0)", d.judge(0), true);
        Check.due("customerOf", d.customerOf(0), 1);
        Check.throwsOnly(IllegalStateException.class, "another vat is not barred", () -> d.customerOf(1));
        Check.due("judge(1)", d.judge(1), true);
        Check.due("in place of the earlier one", d.customerOf(0), 2);
        Check.due("barred for the other one", d.reason(2, 0), 'b');
        d.clean(0);
        d.dye(2, 0, 0, 0, 0);
        d.judge(2);
        Check.throwsOnly(IllegalStateException.class, "a refused lot bars nothing", () -> d.customerOf(0));
    }

    private static void aCleanedVatIsNotBarred() {
        DyehouseLedger d = withOrders(3);
        d.addLot(0, 10);
        d.addLot(1, 10);
        d.dye(0, 0, 10, 10, 10);
        d.clean(0);
        d.dye(1, 0, 10, 10, 10);
        d.clean(1);
        Check.due("judge(0)", d.judge(0), true);
        Check.throwsOnly(IllegalStateException.class, "cleaned since", () -> d.customerOf(0));
        Check.due("judge(1)", d.judge(1), true);
        Check.due("not cleaned since", d.customerOf(0), 2);
    }

    private static void refusedLotsWaitAgain() {
        DyehouseLedger d = withOrders(3);
        d.addLot(0, 10);
        d.addLot(0, 10);
        Check.throwsOnly(IllegalStateException.class, "it waits", () -> d.again(0));
        d.dye(0, 0, 0, 0, 0);
        Check.throwsOnly(IllegalStateException.class, "it is dyed", () -> d.again(0));
        d.judge(0);
        Check.due("again", d.again(0), 2);
        Check.due("stateOf", d.stateOf(0), 'w');
        Check.throwsOnly(IllegalStateException.class, "no shade", () -> d.shadeOf(0, 0));
        Check.throwsOnly(IllegalStateException.class, "no vat", () -> d.vatOf(0));
        Check.throwsOnly(IllegalStateException.class, "no verdict", () -> d.verdict(0));
        d.dye(0, 1, 10, 10, 10);
        Check.due("vatOf", d.vatOf(0), 1);
        d.judge(0);
        Check.throwsOnly(IllegalStateException.class, "it is passed", () -> d.again(0));
        d.clean(0);
        d.dye(1, 0, 0, 0, 0);
        d.judge(1);
        Check.due("the only one that waits", d.again(1), 1);
    }

    private static void statesAreKept() {
        DyehouseLedger d = withOrders(3);
        d.addLot(0, 10);
        Check.throwsOnly(IllegalStateException.class, "verdict while waiting", () -> d.verdict(0));
        Check.throwsOnly(IllegalStateException.class, "judge while waiting", () -> d.judge(0));
        d.dye(0, 0, 0, 0, 0);
        d.judge(0);
        Check.throwsOnly(IllegalStateException.class, "verdict when refused", () -> d.verdict(0));
        Check.throwsOnly(IllegalStateException.class, "judge when refused", () -> d.judge(0));
        int[] none = {-1, 1, 24, Integer.MIN_VALUE, Integer.MAX_VALUE};
        for (int n : none) {
            Check.throwsOnly(NoSuchElementException.class, "verdict(" + n + ")", () -> d.verdict(n));
            Check.throwsOnly(NoSuchElementException.class, "judge(" + n + ")", () -> d.judge(n));
            Check.throwsOnly(NoSuchElementException.class, "again(" + n + ")", () -> d.again(n));
        }
    }

    private static void spreadIsOfPassedLots() {
        DyehouseLedger d = withOrders(9);
        int[][] shades = {{13, 10, 10}, {10, 7, 10}, {10, 10, 12}, {1, 10, 10}, {10, 10, 5}};
        int[] due = {0, 6, 6, 6, 8};
        Check.due("spread without lots", d.spread(0), 0);
        for (int lot = 0; lot < shades.length; lot++) {
            dyed(d, 0, 0, shades[lot][0], shades[lot][1], shades[lot][2]);
            if (lot == 0) {
                Check.due("dyed alone", d.spread(0), 0);
            }
            d.judge(lot);
            Check.due("spread behind lot " + lot, d.spread(0), due[lot]);
        }
        Check.due("spread(1)", d.spread(1), 0);
        int[] none = {-1, 2, 6, Integer.MIN_VALUE, Integer.MAX_VALUE};
        for (int n : none) {
            Check.throwsOnly(NoSuchElementException.class, "spread(" + n + ")", () -> d.spread(n));
        }
    }

    private static void theShareOfPassedLots() {
        DyehouseLedger d = withOrders(3);
        Check.throwsOnly(ArithmeticException.class, "no lots", () -> d.passedShare());
        dyed(d, 0, 0, 10, 10, 10);
        d.addLot(0, 1);
        Check.throwsOnly(ArithmeticException.class, "none judged", () -> d.passedShare());
        d.judge(0);
        Check.due("all", d.passedShare(), 1f);
        dyed(d, 0, 0, 0, 10, 10);
        dyed(d, 0, 0, 0, 10, 10);
        Check.due("dyed lots do not count", d.passedShare(), 1f);
        d.judge(2);
        Check.due("half", d.passedShare(), 0.5f);
        d.judge(3);
        Check.due("a third", d.passedShare(), 1f / 3f);
        d.again(2);
        Check.due("waiting lots do not count", d.passedShare(), 0.5f);
        DyehouseLedger none = withOrders(0);
        dyed(none, 0, 0, 0, 0, 0);
        none.judge(0);
        Check.due("none passed", none.passedShare(), 0f);
    }
}
