import java.util.NoSuchElementException;

/** Promises 40 to 42: late orders and what is due. */
public final class DuesTest {
    public static void main(String[] args) {
        daysAreRoundedDown();
        theGreatestClockCounts();
        waitingLotsDoNotCount();
        duesArePassedWeightTimesPrice();
        duesAreNeverBelowNothing();
        duesOfACustomerAreSums();
        wrongNumbers();
        Check.close();
    }

    private static DyehouseLedger withOrder(int day, int price) {
        DyehouseLedger d = new DyehouseLedger();
        d.addRecipe(10, 10, 10);
        d.addOrder(1, 0, 10, day, price);
        d.addVat(300);
        d.addVat(300);
        return d;
    }

    private static void cleanTimes(DyehouseLedger d, int vat, int times) {
        for (int i = 0; i < times; i++) {
            d.clean(vat);
        }
    }

    private static void daysAreRoundedDown() {
        DyehouseLedger d = withOrder(0, 1);
        d.addLot(0, 10);
        d.addLot(0, 10);
        Check.due("all lots wait", d.lateBy(0), 0);
        cleanTimes(d, 0, 6);
        Check.due("23 hours", d.dye(0, 0, 10, 10, 10), 23);
        Check.due("day 0", d.lateBy(0), 0);
        cleanTimes(d, 1, 13);
        d.addLot(0, 200);
        cleanTimes(d, 1, 1);
        Check.due("47 hours", d.dye(1, 1, 10, 10, 10), 47);
        Check.due("day 1", d.lateBy(0), 1);
        cleanTimes(d, 1, 3);
        Check.due("56 + 8 hours", d.dye(2, 1, 10, 10, 10), 64);
        Check.due("day 2", d.lateBy(0), 2);
        cleanTimes(d, 1, 20);
        Check.due("the clock behind the dyeing counts", d.lateBy(0), 2);
    }

    private static void theGreatestClockCounts() {
        DyehouseLedger d = withOrder(1, 1);
        d.addOrder(1, 0, 10, 0, 1);
        d.addLot(0, 10);
        d.addLot(0, 10);
        d.addLot(1, 10);
        cleanTimes(d, 0, 23);
        d.dye(0, 0, 10, 10, 10);
        Check.due("74 hours are day 3", d.lateBy(0), 2);
        d.dye(1, 1, 10, 10, 10);
        Check.due("a vat with a lower clock", d.lateBy(0), 2);
        d.dye(2, 1, 10, 10, 10);
        Check.due("another order", d.lateBy(1), 0);
        DyehouseLedger exact = withOrder(1, 1);
        exact.addLot(0, 51);
        cleanTimes(exact, 0, 6);
        Check.due("24 hours", exact.dye(0, 0, 10, 10, 10), 24);
        Check.due("day 1 is not late", exact.lateBy(0), 0);
        DyehouseLedger late = withOrder(0, 1);
        late.addLot(0, 51);
        cleanTimes(late, 0, 6);
        late.dye(0, 0, 10, 10, 10);
        Check.due("day 1 is a day late", late.lateBy(0), 1);
    }

    private static void waitingLotsDoNotCount() {
        DyehouseLedger d = withOrder(0, 1);
        d.addLot(0, 10);
        cleanTimes(d, 0, 30);
        d.dye(0, 0, 20, 20, 20);
        Check.due("a dyed lot counts", d.lateBy(0), 3);
        d.judge(0);
        Check.due("a refused lot counts", d.lateBy(0), 3);
        d.again(0);
        Check.due("not once it waits again", d.lateBy(0), 0);
        d.dye(0, 1, 10, 10, 10);
        Check.due("dyed early in another vat", d.lateBy(0), 0);
    }

    private static void duesArePassedWeightTimesPrice() {
        DyehouseLedger d = withOrder(0, 7);
        d.addLot(0, 100);
        d.addLot(0, 33);
        d.addLot(0, 50);
        Check.due("none passed", d.due(0), 0);
        d.dye(0, 0, 10, 10, 10);
        Check.due("dyed is not passed", d.due(0), 0);
        d.judge(0);
        Check.due("one passed", d.due(0), 700);
        d.dye(1, 0, 10, 10, 10);
        d.judge(1);
        Check.due("two passed", d.due(0), 931);
        cleanTimes(d, 1, 16);
        d.dye(2, 1, 20, 20, 20);
        Check.due("two days late", d.due(0), 731);
        d.judge(2);
        Check.due("a refused lot brings nothing", d.due(0), 731);
    }

    private static void duesAreNeverBelowNothing() {
        DyehouseLedger d = withOrder(0, 20);
        d.addLot(0, 10);
        cleanTimes(d, 0, 14);
        d.dye(0, 0, 10, 10, 10);
        d.judge(0);
        Check.due("a day late", d.due(0), 100);
        d.addLot(0, 1);
        cleanTimes(d, 0, 20);
        d.dye(1, 0, 10, 10, 10);
        Check.due("four days late", d.lateBy(0), 4);
        Check.due("not less than nothing", d.due(0), 0);
        Check.due("nor for the customer", d.dues(1), 0L);
    }

    private static void duesOfACustomerAreSums() {
        DyehouseLedger d = withOrder(0, 7);
        d.addOrder(1, 0, 10, 99, 99);
        d.addOrder(2, 0, 10, 99, 3);
        for (int order = 0; order < 3; order++) {
            d.addLot(order, 200);
            d.clean(0);
            d.dye(order, 0, 10, 10, 10);
            d.judge(order);
        }
        Check.due("dues(0)", d.dues(0), 0L);
        Check.due("dues(1)", d.dues(1), 1400L + 19800L);
        Check.due("dues(2)", d.dues(2), 600L);
        Check.due("dues(3)", d.dues(3), 0L);
    }

    private static void wrongNumbers() {
        DyehouseLedger d = withOrder(0, 7);
        int[] none = {-1, 1, 6, Integer.MIN_VALUE, Integer.MAX_VALUE};
        for (int n : none) {
            Check.throwsOnly(NoSuchElementException.class, "lateBy(" + n + ")", () -> d.lateBy(n));
            Check.throwsOnly(NoSuchElementException.class, "due(" + n + ")", () -> d.due(n));
        }
        int[] noCustomer = {-1, 4, Integer.MIN_VALUE, Integer.MAX_VALUE};
        for (int n : noCustomer) {
            Check.throwsOnly(IllegalArgumentException.class, "dues(" + n + ")", () -> d.dues(n));
        }
    }
}
