import java.util.NoSuchElementException;

/** Promises 6, 7, 25, 26, 37 and 38: orders and their lots. */
public final class OrdersTest {
    public static void main(String[] args) {
        ordersAreNumberedAndAtMostSix();
        numbersOfAnOrderAreInRange();
        lotsAreNumberedAndAtMostTwentyFour();
        weightsAreInRange();
        lotsOfAnOrderAreCounted();
        Check.close();
    }

    private static void ordersAreNumberedAndAtMostSix() {
        DyehouseLedger d = new DyehouseLedger();
        Check.throwsOnly(NoSuchElementException.class, "no recipe", () -> d.addOrder(0, 0, 0, 0, 0));
        d.addRecipe(1, 2, 3);
        for (int i = 0; i < 6; i++) {
            Check.due("addOrder", d.addOrder(i % 4, 0, i, i, i), i);
        }
        Check.throwsOnly(IllegalStateException.class, "seventh order", () -> d.addOrder(0, 0, 0, 0, 0));
        Check.throwsOnly(IllegalArgumentException.class, "seventh, wrong", () -> d.addOrder(0, 0, 0, 0, 100));
        Check.throwsOnly(NoSuchElementException.class, "seventh, no recipe", () -> d.addOrder(4, 1, 0, 0, 100));
    }

    private static void numbersOfAnOrderAreInRange() {
        DyehouseLedger d = new DyehouseLedger();
        d.addRecipe(1, 2, 3);
        int[][] most = {{3, 1}, {30, 2}, {99, 3}, {99, 4}};
        for (int i = 0; i < 4; i++) {
            int over = most[i][0] + 1;
            int[] wrong = {-1, over, Integer.MIN_VALUE, Integer.MAX_VALUE};
            for (int n : wrong) {
                int which = i;
                Check.throwsOnly(IllegalArgumentException.class, "number " + i + " is " + n, () -> d.addOrder(
                        which == 0 ? n : 0, 0, which == 1 ? n : 0, which == 2 ? n : 0, which == 3 ? n : 0));
            }
        }
        int[] noRecipe = {-1, 1, 8, Integer.MIN_VALUE, Integer.MAX_VALUE};
        for (int n : noRecipe) {
            Check.throwsOnly(NoSuchElementException.class, "recipe " + n, () -> d.addOrder(-1, n, -1, -1, -1));
        }
        Check.due("least", d.addOrder(0, 0, 0, 0, 0), 0);
        Check.due("most", d.addOrder(3, 0, 30, 99, 99), 1);
    }

    private static void lotsAreNumberedAndAtMostTwentyFour() {
        DyehouseLedger d = new DyehouseLedger();
        Check.throwsOnly(NoSuchElementException.class, "no order", () -> d.addLot(0, 1));
        d.addRecipe(1, 2, 3);
        d.addOrder(0, 0, 0, 0, 0);
        for (int i = 0; i < 24; i++) {
            Check.due("lots()", d.lots(), i);
            Check.due("addLot", d.addLot(0, 1 + i), i);
            Check.due("stateOf", d.stateOf(i), 'w');
        }
        Check.throwsOnly(IllegalStateException.class, "25th lot", () -> d.addLot(0, 1));
        Check.throwsOnly(IllegalArgumentException.class, "25th lot, wrong weight", () -> d.addLot(0, 201));
        Check.throwsOnly(NoSuchElementException.class, "25th lot, no order", () -> d.addLot(1, 201));
        Check.due("lots()", d.lots(), 24);
        int[] noLot = {-1, 24, Integer.MIN_VALUE, Integer.MAX_VALUE};
        for (int n : noLot) {
            Check.throwsOnly(NoSuchElementException.class, "stateOf(" + n + ")", () -> d.stateOf(n));
        }
    }

    private static void weightsAreInRange() {
        DyehouseLedger d = new DyehouseLedger();
        d.addRecipe(1, 2, 3);
        d.addOrder(0, 0, 0, 0, 0);
        int[] wrong = {0, -1, 201, Integer.MIN_VALUE, Integer.MAX_VALUE};
        for (int n : wrong) {
            Check.throwsOnly(IllegalArgumentException.class, "weight " + n, () -> d.addLot(0, n));
            Check.throwsOnly(NoSuchElementException.class, "order first, weight " + n, () -> d.addLot(1, n));
        }
        Check.due("least weight", d.addLot(0, 1), 0);
        Check.due("most weight", d.addLot(0, 200), 1);
    }

    private static void lotsOfAnOrderAreCounted() {
        DyehouseLedger d = new DyehouseLedger();
        d.addRecipe(10, 10, 10);
        d.addOrder(0, 0, 2, 0, 0);
        d.addOrder(0, 0, 2, 0, 0);
        d.addVat(100);
        Check.due("lotsOf at first", d.lotsOf(0), 0);
        Check.due("passedOf at first", d.passedOf(0), 0);
        for (int i = 0; i < 5; i++) {
            d.addLot(i % 2, 10);
        }
        Check.due("lotsOf(0)", d.lotsOf(0), 3);
        Check.due("lotsOf(1)", d.lotsOf(1), 2);
        d.dye(0, 0, 10, 10, 10);
        Check.due("a dyed lot is not passed", d.passedOf(0), 0);
        d.judge(0);
        d.dye(2, 0, 10, 10, 13);
        d.judge(2);
        d.dye(1, 0, 10, 10, 10);
        d.judge(1);
        Check.due("passedOf(0)", d.passedOf(0), 1);
        Check.due("passedOf(1)", d.passedOf(1), 1);
        Check.due("stateOf(0)", d.stateOf(0), 'p');
        Check.due("stateOf(2)", d.stateOf(2), 'x');
        int[] noOrder = {-1, 2, 6, Integer.MIN_VALUE, Integer.MAX_VALUE};
        for (int n : noOrder) {
            Check.throwsOnly(NoSuchElementException.class, "lotsOf(" + n + ")", () -> d.lotsOf(n));
            Check.throwsOnly(NoSuchElementException.class, "passedOf(" + n + ")", () -> d.passedOf(n));
        }
    }
}
