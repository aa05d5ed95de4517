import java.util.NoSuchElementException;

/** Promises 27, 29 to 32 and 45: shades of lots and how far apart they are. */
public final class ShadesTest {
    private static final int[][] SHADES = {
        {5, 9, 9}, {20, 0, 0}, {5, 8, 20}, {5, 9, 8}, {5, 9, 9}, {0, 20, 20},
    };

    public static void main(String[] args) {
        partsAreAsked();
        distancesAreSums();
        waitingLotsHaveNoShade();
        theNearestPassedLot();
        lotsByLight();
        theMeanDistance();
        Check.close();
    }

    /** Lots 0 to 5 with the SHADES above, each dyed in a cleaned vat, and lot 6, which waits. */
    private static DyehouseLedger withLots() {
        DyehouseLedger d = new DyehouseLedger();
        d.addRecipe(10, 10, 10);
        d.addRecipe(5, 9, 9);
        d.addOrder(0, 0, 30, 9, 1);
        d.addOrder(1, 1, 30, 9, 1);
        d.addVat(300);
        for (int lot = 0; lot < SHADES.length; lot++) {
            d.addLot(lot % 2, 10);
            d.clean(0);
            d.dye(lot, 0, SHADES[lot][0], SHADES[lot][1], SHADES[lot][2]);
        }
        d.addLot(0, 10);
        return d;
    }

    private static void partsAreAsked() {
        DyehouseLedger d = withLots();
        for (int lot = 0; lot < SHADES.length; lot++) {
            for (int part = 0; part < 3; part++) {
                Check.due("shadeOf(" + lot + ", " + part + ")", d.shadeOf(lot, part), SHADES[lot][part]);
            }
        }
        int[] noPart = {-1, 3, Integer.MIN_VALUE, Integer.MAX_VALUE};
        for (int n : noPart) {
            Check.throwsOnly(IndexOutOfBoundsException.class, "part " + n, () -> d.shadeOf(0, n));
            Check.throwsOnly(IllegalStateException.class, "waits, part " + n, () -> d.shadeOf(6, n));
            Check.throwsOnly(NoSuchElementException.class, "no lot, part " + n, () -> d.shadeOf(7, n));
        }
    }

    private static void distancesAreSums() {
        DyehouseLedger d = withLots();
        Check.due("offBy(0)", d.offBy(0), 7);
        Check.due("offBy(1)", d.offBy(1), 33);
        Check.due("offBy(4)", d.offBy(4), 7);
        Check.due("offBy(5)", d.offBy(5), 27);
        Check.due("distance(0, 4)", d.distance(0, 4), 0);
        Check.due("distance(3, 3)", d.distance(3, 3), 0);
        Check.due("distance(1, 5)", d.distance(1, 5), 60);
        Check.due("distance(5, 1)", d.distance(5, 1), 60);
        Check.due("distance(2, 3)", d.distance(2, 3), 13);
    }

    private static void waitingLotsHaveNoShade() {
        DyehouseLedger d = withLots();
        Check.throwsOnly(IllegalStateException.class, "offBy(6)", () -> d.offBy(6));
        Check.throwsOnly(IllegalStateException.class, "distance(6, 0)", () -> d.distance(6, 0));
        Check.throwsOnly(IllegalStateException.class, "distance(0, 6)", () -> d.distance(0, 6));
        Check.throwsOnly(IllegalStateException.class, "nearest(6)", () -> d.nearest(6));
        int[] none = {-1, 7, 24, Integer.MIN_VALUE, Integer.MAX_VALUE};
        for (int n : none) {
            Check.throwsOnly(NoSuchElementException.class, "offBy " + n, () -> d.offBy(n));
            Check.throwsOnly(NoSuchElementException.class, "distance to " + n, () -> d.distance(6, n));
            Check.throwsOnly(NoSuchElementException.class, "distance from " + n, () -> d.distance(n, 6));
            Check.throwsOnly(NoSuchElementException.class, "nearest " + n, () -> d.nearest(n));
        }
    }

    private static void theNearestPassedLot() {
        DyehouseLedger d = withLots();
        Check.throwsOnly(UnsupportedOperationException.class, "none is passed", () -> d.nearest(0));
        Check.due("judge(4)", d.judge(4), true);
        Check.throwsOnly(UnsupportedOperationException.class, "only itself", () -> d.nearest(4));
        Check.due("its twin", d.nearest(0), 4);
        Check.due("of another order", d.nearest(1), 4);
        Check.due("judge(3)", d.judge(3), true);
        Check.due("nearer than a lower number", d.nearest(0), 4);
        Check.due("lot 4 itself does not count", d.nearest(4), 3);
        Check.due("judge(0)", d.judge(0), true);
        Check.due("lowest of several", d.nearest(3), 0);
        Check.due("lowest of several for lot 2", d.nearest(2), 0);
        Check.due("judge(1), too far off", d.judge(1), false);
        Check.due("a refused lot asks", d.nearest(1), 3);
        Check.due("a refused lot is none", d.nearest(5), 0);
    }

    private static void lotsByLight() {
        DyehouseLedger d = withLots();
        int[] due = {1, 2, 3, 0, 4, 5};
        for (int place = 0; place < due.length; place++) {
            Check.due("byLight(" + place + ")", d.byLight(place), due[place]);
        }
        int[] noPlace = {-1, 6, 24, Integer.MIN_VALUE, Integer.MAX_VALUE};
        for (int n : noPlace) {
            Check.throwsOnly(IndexOutOfBoundsException.class, "byLight(" + n + ")", () -> d.byLight(n));
        }
        d.judge(1);
        Check.due("refused lots have shades", d.byLight(0), 1);
        d.again(1);
        Check.due("but not when they wait again", d.byLight(0), 2);
        Check.throwsOnly(IndexOutOfBoundsException.class, "byLight(5)", () -> d.byLight(5));
        Check.throwsOnly(IndexOutOfBoundsException.class, "no lots", () -> new DyehouseLedger().byLight(0));
    }

    private static void theMeanDistance() {
        DyehouseLedger d = withLots();
        double sum = 7 + 33 + 17 + 1 + 7 + 27;
        Check.due("without the waiting lot", d.meanOff(), 0 + 0 + sum / 6.0);
        d.judge(1);
        Check.due("refused lots count", d.meanOff(), sum / 6.0);
        d.again(1);
        Check.due("not when they wait again", d.meanOff(), (sum - 33) / 5.0);
        Check.throwsOnly(ArithmeticException.class, "no lots", () -> new DyehouseLedger().meanOff());
        DyehouseLedger waits = new DyehouseLedger();
        waits.addRecipe(0, 0, 0);
        waits.addOrder(0, 0, 0, 0, 0);
        waits.addLot(0, 1);
        Check.throwsOnly(ArithmeticException.class, "all lots wait", () -> waits.meanOff());
    }
}
