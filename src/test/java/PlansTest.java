import java.util.NoSuchElementException;

/** Promises 17 to 23: plans and their best orders. */
public final class PlansTest {
    public static void main(String[] args) {
        lotsArePlannedAndTakenOut();
        lotsComeByRisingNumbers();
        sixLotsAreTheMost();
        exceptionsComeInTheirOrder();
        aDyedLotIsPlannedNoMore();
        anEmptyPlanTakesNoTime();
        lighterShadesComeFirst();
        theVatBeginsAsItIs();
        theFirstOfSeveralBestOrders();
        oneVatIsAskedBehindAnother();
        Check.close();
    }

    /** Recipe r has the light 2 * r; order o has the customer o % 4 and the recipe o. */
    private static DyehouseLedger withOrders() {
        DyehouseLedger d = new DyehouseLedger();
        for (int i = 0; i < 6; i++) {
            d.addRecipe(2 * i, 10, 10);
            d.addOrder(i % 4, i, 30, 9, 1);
        }
        d.addVat(100);
        d.addVat(300);
        return d;
    }

    private static void best(DyehouseLedger d, int vat, int hours, int first) {
        Check.due("leastHours", d.leastHours(vat), hours);
        Check.due("leastByAll", d.leastByAll(vat), hours);
        Check.due("firstOf", d.firstOf(vat), first);
    }

    private static void lotsArePlannedAndTakenOut() {
        DyehouseLedger d = withOrders();
        d.addLot(0, 100);
        d.addLot(1, 101);
        Check.due("plan(0, 0)", d.plan(0, 0), 1);
        Check.due("plan(1, 1)", d.plan(1, 1), 1);
        Check.throwsOnly(UnsupportedOperationException.class, "too heavy", () -> {
            d.unplan(1);
            return d.plan(1, 0);
        });
        Check.due("planned(1) without it", d.planned(1), 0);
        Check.due("back into its plan", d.plan(1, 1), 1);
        Check.due("unplan(1)", d.unplan(1), 1);
        Check.throwsOnly(IllegalStateException.class, "not planned", () -> d.unplan(1));
        Check.due("unplan(0)", d.unplan(0), 0);
        Check.due("planned(0)", d.planned(0), 0);
        Check.due("into another plan", d.plan(0, 1), 1);
        Check.due("and one more", d.plan(1, 1), 2);
        Check.due("planned(1)", d.planned(1), 2);
    }

    private static void lotsComeByRisingNumbers() {
        DyehouseLedger d = withOrders();
        for (int i = 0; i < 5; i++) {
            d.addLot(i, 10);
        }
        d.plan(4, 0);
        d.plan(1, 0);
        d.plan(3, 1);
        d.plan(0, 0);
        int[] due = {0, 1, 4};
        for (int place = 0; place < 3; place++) {
            Check.due("plannedAt(0, " + place + ")", d.plannedAt(0, place), due[place]);
        }
        Check.due("plannedAt(1, 0)", d.plannedAt(1, 0), 3);
        int[] noPlace = {-1, 3, 6, Integer.MIN_VALUE, Integer.MAX_VALUE};
        for (int n : noPlace) {
            Check.throwsOnly(IndexOutOfBoundsException.class, "place " + n, () -> d.plannedAt(0, n));
            Check.throwsOnly(NoSuchElementException.class, "vat 2, place " + n, () -> d.plannedAt(2, n));
        }
    }

    private static void sixLotsAreTheMost() {
        DyehouseLedger d = withOrders();
        for (int i = 0; i < 8; i++) {
            d.addLot(0, i == 7 ? 200 : 10);
        }
        for (int i = 0; i < 6; i++) {
            Check.due("plan", d.plan(i, 0), i + 1);
        }
        Check.throwsOnly(IllegalStateException.class, "seventh lot", () -> d.plan(6, 0));
        Check.throwsOnly(IllegalStateException.class, "seventh lot, too heavy", () -> d.plan(7, 0));
        Check.due("another vat", d.plan(6, 1), 1);
        Check.due("planned(0)", d.planned(0), 6);
        d.unplan(2);
        Check.due("room again", d.plan(2, 0), 6);
    }

    private static void exceptionsComeInTheirOrder() {
        DyehouseLedger d = withOrders();
        d.addLot(0, 200);
        d.addLot(0, 10);
        int[] none = {-1, 2, 24, Integer.MIN_VALUE, Integer.MAX_VALUE};
        for (int n : none) {
            Check.throwsOnly(NoSuchElementException.class, "plan lot " + n, () -> d.plan(n, 0));
            Check.throwsOnly(NoSuchElementException.class, "plan for vat " + n, () -> d.plan(0, n));
            Check.throwsOnly(NoSuchElementException.class, "unplan " + n, () -> d.unplan(n));
            Check.throwsOnly(NoSuchElementException.class, "planned " + n, () -> d.planned(n));
            Check.throwsOnly(NoSuchElementException.class, "leastHours " + n, () -> d.leastHours(n));
            Check.throwsOnly(NoSuchElementException.class, "leastByAll " + n, () -> d.leastByAll(n));
            Check.throwsOnly(NoSuchElementException.class, "firstOf " + n, () -> d.firstOf(n));
        }
        d.plan(0, 1);
        Check.throwsOnly(IllegalStateException.class, "planned already, too heavy", () -> d.plan(0, 0));
        Check.throwsOnly(IllegalStateException.class, "planned already here", () -> d.plan(0, 1));
        d.dye(0, 1, 0, 10, 10);
        Check.throwsOnly(IllegalStateException.class, "dyed, too heavy", () -> d.plan(0, 0));
        Check.throwsOnly(IllegalStateException.class, "none planned", () -> d.firstOf(1));
    }

    private static void aDyedLotIsPlannedNoMore() {
        DyehouseLedger d = withOrders();
        d.addLot(0, 10);
        d.addLot(0, 10);
        d.plan(0, 0);
        d.plan(1, 0);
        d.dye(0, 1, 20, 20, 20);
        Check.due("dyed in another vat", d.planned(0), 1);
        Check.due("the other one stays", d.plannedAt(0, 0), 1);
        Check.throwsOnly(IllegalStateException.class, "unplan a dyed lot", () -> d.unplan(0));
        d.judge(0);
        d.again(0);
        Check.due("still not planned", d.planned(0), 1);
        Check.due("but can be", d.plan(0, 0), 2);
    }

    private static void anEmptyPlanTakesNoTime() {
        DyehouseLedger d = withOrders();
        Check.due("leastHours", d.leastHours(0), 0);
        Check.due("leastByAll", d.leastByAll(0), 0);
        Check.throwsOnly(IllegalStateException.class, "firstOf", () -> d.firstOf(0));
    }

    private static void lighterShadesComeFirst() {
        DyehouseLedger d = withOrders();
        for (int i = 0; i < 6; i++) {
            d.addLot(i, 10 + 30 * i);
            d.plan(i, 1);
        }
        best(d, 1, 5 + 5 + 6 + 6 + 7 + 8, 5);
        d.unplan(5);
        best(d, 1, 29, 4);
        Check.due("without dyes in stock it counts the same", d.setDye(0, 0, 9), 0);
        best(d, 1, 29, 4);
        Check.due("the vat stays as it is", d.clock(1), 0);
    }

    private static void theVatBeginsAsItIs() {
        DyehouseLedger d = withOrders();
        d.addLot(1, 10);
        d.addLot(1, 10);
        d.addLot(2, 10);
        d.dye(0, 0, 3, 10, 10);
        d.plan(1, 0);
        best(d, 0, 5, 1);
        d.plan(2, 0);
        // Light 2 fits behind light 3, then light 4 asks for a cleaning; the other way round too.
        best(d, 0, 13, 1);
        d.judge(0);
        best(d, 0, 13, 1);
        d.unplan(1);
        d.addLot(0, 10);
        d.plan(3, 0);
        // Lot 3 of light 0 is barred now, so one cleaning ahead of lot 2 serves both.
        best(d, 0, 13, 2);
        d.clean(0);
        best(d, 0, 10, 2);
    }

    private static void theFirstOfSeveralBestOrders() {
        DyehouseLedger d = withOrders();
        for (int i = 0; i < 4; i++) {
            d.addLot(3, 10);
        }
        d.plan(3, 0);
        d.plan(1, 0);
        d.plan(2, 0);
        best(d, 0, 15, 1);
        d.addLot(0, 10);
        d.plan(4, 0);
        best(d, 0, 20, 1);
        d.dye(0, 0, 0, 10, 10);
        best(d, 0, 23, 1);
        d.addLot(0, 10);
        d.unplan(1);
        d.unplan(2);
        d.unplan(3);
        d.plan(5, 0);
        d.plan(3, 0);
        // Lots 4 and 5 have light 0 and fit the vat; ahead of lot 3 it is cleaned in any case.
        best(d, 0, 18, 3);
    }

    private static void oneVatIsAskedBehindAnother() {
        DyehouseLedger d = withOrders();
        for (int i = 0; i < 4; i++) {
            d.addLot(i, 10 + 50 * i);
        }
        d.plan(0, 0);
        d.plan(1, 0);
        d.plan(2, 1);
        d.plan(3, 1);
        Check.due("firstOf(1) asked first", d.firstOf(1), 3);
        Check.due("leastHours(0)", d.leastHours(0), 11);
        Check.due("firstOf(1) behind leastHours(0)", d.firstOf(1), 3);
        Check.due("leastByAll(0) behind firstOf(1)", d.leastByAll(0), 11);
        Check.due("leastHours(1) behind leastByAll(0)", d.leastHours(1), 15);
        Check.due("firstOf(0) behind leastHours(1)", d.firstOf(0), 1);
    }
}
