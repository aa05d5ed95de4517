import java.util.NoSuchElementException;

/** Promises 8, 10, 11, 12, 13, 28 and 33 to 36: vats and dyeing in them. */
public final class VatsTest {
    public static void main(String[] args) {
        vatsAreNumberedAndAtMostFour();
        hoursGrowWithTheWeight();
        reasonsComeInTheirOrder();
        dyeingChangesLotAndVat();
        dyeingIsRefused();
        cleaningEmptiesTheVat();
        wrongVats();
        Check.close();
    }

    private static DyehouseLedger withRecipes() {
        DyehouseLedger d = new DyehouseLedger();
        d.addRecipe(10, 5, 5);
        d.addRecipe(12, 5, 5);
        d.addOrder(0, 0, 5, 9, 1);
        d.addOrder(1, 0, 5, 9, 1);
        d.addOrder(0, 1, 5, 9, 1);
        return d;
    }

    private static void vatsAreNumberedAndAtMostFour() {
        DyehouseLedger d = new DyehouseLedger();
        int[] wrong = {9, 301, 0, -1, Integer.MIN_VALUE, Integer.MAX_VALUE};
        for (int n : wrong) {
            Check.throwsOnly(IllegalArgumentException.class, "addVat(" + n + ")", () -> d.addVat(n));
        }
        int[] weights = {10, 300, 50, 51};
        for (int i = 0; i < 4; i++) {
            Check.due("addVat", d.addVat(weights[i]), i);
            Check.due("clock", d.clock(i), 0);
            Check.due("cleanings", d.cleanings(i), 0);
        }
        Check.throwsOnly(IllegalStateException.class, "fifth vat", () -> d.addVat(10));
        Check.throwsOnly(IllegalArgumentException.class, "fifth vat, wrong weight", () -> d.addVat(9));
    }

    private static void hoursGrowWithTheWeight() {
        DyehouseLedger d = withRecipes();
        int[][] due = {{1, 5}, {49, 5}, {50, 5}, {51, 6}, {100, 6}, {101, 7}, {150, 7}, {151, 8}, {200, 8}};
        for (int i = 0; i < due.length; i++) {
            d.addLot(0, due[i][0]);
            Check.due("hoursFor " + due[i][0] + " kilograms", d.hoursFor(i), due[i][1]);
        }
        int[] noLot = {-1, 9, 24, Integer.MIN_VALUE, Integer.MAX_VALUE};
        for (int n : noLot) {
            Check.throwsOnly(NoSuchElementException.class, "hoursFor(" + n + ")", () -> d.hoursFor(n));
        }
    }

    private static void reasonsComeInTheirOrder() {
        DyehouseLedger d = withRecipes();
        d.addVat(50);
        d.addLot(0, 50);
        d.addLot(1, 51);
        d.addLot(1, 50);
        d.addLot(2, 10);
        Check.due("nothing against it", d.reason(0, 0), '-');
        d.setDye(0, 2, 101);
        Check.due("no dye", d.reason(0, 0), 'g');
        d.supply(2, 50);
        Check.due("a gram too few", d.reason(0, 0), 'g');
        d.supply(2, 1);
        Check.due("just enough", d.reason(0, 0), '-');
        d.dye(0, 0, 9, 5, 5);
        Check.due("it does not wait", d.reason(0, 0), 'w');
        Check.due("too heavy", d.reason(1, 0), 'h');
        Check.due("vat one darker", d.reason(2, 0), 's');
        d.judge(0);
        Check.due("too dark before barred", d.reason(2, 0), 's');
        d.setDye(0, 2, 0);
        d.clean(0);
        Check.due("not barred once cleaned", d.reason(2, 0), '-');
        d.addLot(0, 50);
        d.dye(4, 0, 10, 5, 5);
        d.judge(4);
        d.setDye(0, 0, 1);
        Check.due("barred before grams", d.reason(2, 0), 'b');
        Check.due("as light is not too dark", d.addLot(0, 50) == 5 ? d.reason(5, 0) : '?', 'g');
        Check.due("lighter recipe of the same customer", d.reason(3, 0), 's');
        Check.throwsOnly(NoSuchElementException.class, "reason(6, 0)", () -> d.reason(6, 0));
        Check.throwsOnly(NoSuchElementException.class, "reason(-1, 0)", () -> d.reason(-1, 0));
        Check.throwsOnly(NoSuchElementException.class, "reason(0, 1)", () -> d.reason(0, 1));
        Check.throwsOnly(NoSuchElementException.class, "reason(0, -1)", () -> d.reason(0, -1));
    }

    private static void dyeingChangesLotAndVat() {
        DyehouseLedger d = withRecipes();
        d.addVat(300);
        d.addVat(300);
        d.addLot(0, 100);
        d.addLot(1, 200);
        Check.throwsOnly(IllegalStateException.class, "vatOf a waiting lot", () -> d.vatOf(0));
        Check.throwsOnly(IllegalStateException.class, "lightIn at first", () -> d.lightIn(1));
        Check.throwsOnly(IllegalStateException.class, "customerOf at first", () -> d.customerOf(1));
        Check.due("dye", d.dye(0, 1, 0, 20, 19), 6);
        Check.due("stateOf", d.stateOf(0), 'd');
        Check.due("vatOf", d.vatOf(0), 1);
        Check.due("light", d.shadeOf(0, 0), 0);
        Check.due("red", d.shadeOf(0, 1), 20);
        Check.due("blue", d.shadeOf(0, 2), 19);
        Check.due("lightIn is what came out", d.lightIn(1), 0);
        Check.due("clock(1)", d.clock(1), 6);
        Check.due("clock(0)", d.clock(0), 0);
        Check.throwsOnly(IllegalStateException.class, "dyed is not passed", () -> d.customerOf(1));
        d.clean(1);
        Check.due("the clock goes on", d.dye(1, 1, 20, 0, 0), 17);
        Check.due("lightIn is the last one", d.lightIn(1), 20);
        int[] noLot = {-1, 2, 24, Integer.MIN_VALUE, Integer.MAX_VALUE};
        for (int n : noLot) {
            Check.throwsOnly(NoSuchElementException.class, "vatOf(" + n + ")", () -> d.vatOf(n));
        }
    }

    private static void dyeingIsRefused() {
        DyehouseLedger d = withRecipes();
        d.addVat(50);
        d.addLot(0, 51);
        d.addLot(0, 50);
        int[] wrong = {-1, 21, Integer.MIN_VALUE, Integer.MAX_VALUE};
        for (int n : wrong) {
            Check.throwsOnly(IllegalArgumentException.class, "light " + n, () -> d.dye(0, 0, n, 0, 0));
            Check.throwsOnly(IllegalArgumentException.class, "red " + n, () -> d.dye(0, 0, 0, n, 0));
            Check.throwsOnly(IllegalArgumentException.class, "blue " + n, () -> d.dye(0, 0, 0, 0, n));
        }
        int[] none = {-1, 2, 24, Integer.MIN_VALUE, Integer.MAX_VALUE};
        for (int n : none) {
            Check.throwsOnly(NoSuchElementException.class, "lot " + n, () -> d.dye(n, 0, 21, 0, 0));
            Check.throwsOnly(NoSuchElementException.class, "vat " + n, () -> d.dye(0, n, 21, 0, 0));
        }
        Check.throwsOnly(UnsupportedOperationException.class, "too heavy", () -> d.dye(0, 0, 10, 5, 5));
        d.setDye(0, 0, 2);
        Check.throwsOnly(UnsupportedOperationException.class, "no dye", () -> d.dye(1, 0, 10, 5, 5));
        d.supply(0, 1);
        d.dye(1, 0, 10, 5, 5);
        Check.throwsOnly(UnsupportedOperationException.class, "does not wait", () -> d.dye(1, 0, 10, 5, 5));
        Check.due("clock", d.clock(0), 5);
        Check.due("stock", d.stock(0), 0);
        Check.due("used", d.used(0), 1L);
    }

    private static void cleaningEmptiesTheVat() {
        DyehouseLedger d = withRecipes();
        d.addVat(50);
        d.addLot(1, 50);
        Check.due("clean a vat without a shade", d.clean(0), 3);
        Check.due("cleanings", d.cleanings(0), 1);
        d.dye(0, 0, 10, 5, 5);
        d.judge(0);
        Check.due("customerOf", d.customerOf(0), 1);
        Check.due("clean", d.clean(0), 11);
        Check.due("cleanings", d.cleanings(0), 2);
        Check.due("clock", d.clock(0), 11);
        Check.throwsOnly(IllegalStateException.class, "no shade", () -> d.lightIn(0));
        Check.throwsOnly(IllegalStateException.class, "not barred", () -> d.customerOf(0));
        Check.due("the lot keeps its vat", d.vatOf(0), 0);
    }

    private static void wrongVats() {
        DyehouseLedger d = withRecipes();
        d.addVat(50);
        int[] none = {-1, 1, 4, Integer.MIN_VALUE, Integer.MAX_VALUE};
        for (int n : none) {
            Check.throwsOnly(NoSuchElementException.class, "clean(" + n + ")", () -> d.clean(n));
            Check.throwsOnly(NoSuchElementException.class, "clock(" + n + ")", () -> d.clock(n));
            Check.throwsOnly(NoSuchElementException.class, "cleanings(" + n + ")", () -> d.cleanings(n));
            Check.throwsOnly(NoSuchElementException.class, "lightIn(" + n + ")", () -> d.lightIn(n));
            Check.throwsOnly(NoSuchElementException.class, "customerOf(" + n + ")", () -> d.customerOf(n));
        }
    }
}
