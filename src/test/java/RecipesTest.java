import java.util.NoSuchElementException;

/** Promises 2 to 5, 9, 24 and 43: recipes, dyes and the stock. */
public final class RecipesTest {
    public static void main(String[] args) {
        recipesAreNumberedAndAtMostEight();
        numbersOfAShadeAreInRange();
        dyesOfARecipeAreSet();
        dyesComeIntoTheStock();
        theStockHasALimit();
        needsAreRoundedUp();
        usedDyesAreCounted();
        Check.close();
    }

    private static void recipesAreNumberedAndAtMostEight() {
        DyehouseLedger d = new DyehouseLedger();
        for (int i = 0; i < 8; i++) {
            Check.due("recipes()", d.recipes(), i);
            Check.due("addRecipe", d.addRecipe(i, 20 - i, i), i);
        }
        Check.throwsOnly(IllegalStateException.class, "ninth recipe", () -> d.addRecipe(0, 0, 0));
        Check.throwsOnly(IllegalArgumentException.class, "ninth recipe, out of range", () -> d.addRecipe(0, 0, 21));
        Check.due("recipes()", d.recipes(), 8);
    }

    private static void numbersOfAShadeAreInRange() {
        DyehouseLedger d = new DyehouseLedger();
        int[] wrong = {-1, 21, Integer.MIN_VALUE, Integer.MAX_VALUE};
        for (int n : wrong) {
            Check.throwsOnly(IllegalArgumentException.class, "light " + n, () -> d.addRecipe(n, 0, 0));
            Check.throwsOnly(IllegalArgumentException.class, "red " + n, () -> d.addRecipe(0, n, 0));
            Check.throwsOnly(IllegalArgumentException.class, "blue " + n, () -> d.addRecipe(0, 0, n));
        }
        Check.due("addRecipe(0, 0, 0)", d.addRecipe(0, 0, 0), 0);
        Check.due("addRecipe(20, 20, 20)", d.addRecipe(20, 20, 20), 1);
    }

    private static void dyesOfARecipeAreSet() {
        DyehouseLedger d = new DyehouseLedger();
        d.addRecipe(1, 1, 1);
        d.addRecipe(2, 2, 2);
        for (int dye = 0; dye < 3; dye++) {
            Check.due("setDye at first", d.setDye(0, dye, 5000 - dye), 0);
            Check.due("setDye then", d.setDye(0, dye, 0), 5000 - dye);
            Check.due("setDye of another recipe", d.setDye(1, dye, 7), 0);
        }
        int[] noNumber = {-1, 2, 8, Integer.MIN_VALUE, Integer.MAX_VALUE};
        for (int n : noNumber) {
            Check.throwsOnly(NoSuchElementException.class, "setDye of recipe " + n, () -> d.setDye(n, 3, -1));
        }
        int[] noDye = {-1, 3, Integer.MIN_VALUE, Integer.MAX_VALUE};
        for (int n : noDye) {
            Check.throwsOnly(IllegalArgumentException.class, "setDye of dye " + n, () -> d.setDye(0, n, 0));
        }
        int[] noGrams = {-1, 5001, Integer.MIN_VALUE, Integer.MAX_VALUE};
        for (int n : noGrams) {
            Check.throwsOnly(IllegalArgumentException.class, "setDye to " + n, () -> d.setDye(1, 0, n));
        }
        Check.due("a wrong call changes nothing", d.setDye(1, 0, 7), 7);
    }

    private static void dyesComeIntoTheStock() {
        DyehouseLedger d = new DyehouseLedger();
        Check.due("supply(0, 1)", d.supply(0, 1), 1);
        Check.due("supply(0, 99999)", d.supply(0, 99999), 100000);
        Check.due("supply(2, 5)", d.supply(2, 5), 5);
        int[] noGrams = {0, -1, 100000, Integer.MIN_VALUE, Integer.MAX_VALUE};
        for (int n : noGrams) {
            Check.throwsOnly(IllegalArgumentException.class, "supply of " + n, () -> d.supply(0, n));
        }
        int[] noDye = {-1, 3, Integer.MIN_VALUE, Integer.MAX_VALUE};
        for (int n : noDye) {
            Check.throwsOnly(IllegalArgumentException.class, "supply of dye " + n, () -> d.supply(n, 1));
            Check.throwsOnly(IllegalArgumentException.class, "stock of dye " + n, () -> d.stock(n));
            Check.throwsOnly(IllegalArgumentException.class, "used of dye " + n, () -> d.used(n));
        }
        Check.due("stock(0)", d.stock(0), 100000);
        Check.due("stock(1)", d.stock(1), 0);
        Check.due("stock(2)", d.stock(2), 5);
    }

    private static void theStockHasALimit() {
        DyehouseLedger d = new DyehouseLedger();
        for (int i = 0; i < 100; i++) {
            d.supply(1, 99999);
        }
        Check.throwsOnly(IllegalStateException.class, "one gram over the limit", () -> d.supply(1, 100));
        Check.throwsOnly(IllegalArgumentException.class, "too many at once", () -> d.supply(1, 100000));
        Check.due("stock(1)", d.stock(1), 9999900);
        Check.due("up to the limit", d.supply(1, 99), 9999999);
        Check.throwsOnly(IllegalStateException.class, "at the limit", () -> d.supply(1, 1));
        Check.due("another dye", d.supply(0, 1), 1);
    }

    private static void needsAreRoundedUp() {
        DyehouseLedger d = new DyehouseLedger();
        d.addRecipe(0, 0, 0);
        d.setDye(0, 0, 5000);
        d.setDye(0, 1, 1);
        d.addOrder(0, 0, 0, 0, 0);
        d.addLot(0, 200);
        d.addLot(0, 1);
        d.addLot(0, 100);
        d.addLot(0, 101);
        int[][] due = {{10000, 2, 0}, {50, 1, 0}, {5000, 1, 0}, {5050, 2, 0}};
        for (int lot = 0; lot < 4; lot++) {
            for (int dye = 0; dye < 3; dye++) {
                Check.due("needs(" + lot + ", " + dye + ")", d.needs(lot, dye), due[lot][dye]);
            }
        }
        d.setDye(0, 2, 33);
        Check.due("needs as the recipe is now", d.needs(3, 2), 34);
        int[] noLot = {-1, 4, 24, Integer.MIN_VALUE, Integer.MAX_VALUE};
        for (int n : noLot) {
            Check.throwsOnly(NoSuchElementException.class, "needs of lot " + n, () -> d.needs(n, 3));
        }
        int[] noDye = {-1, 3, Integer.MIN_VALUE, Integer.MAX_VALUE};
        for (int n : noDye) {
            Check.throwsOnly(IllegalArgumentException.class, "needs of dye " + n, () -> d.needs(0, n));
        }
    }

    private static void usedDyesAreCounted() {
        DyehouseLedger d = new DyehouseLedger();
        d.addRecipe(5, 5, 5);
        d.setDye(0, 0, 150);
        d.setDye(0, 2, 33);
        d.supply(0, 400);
        d.supply(1, 9);
        d.supply(2, 100);
        d.addOrder(0, 0, 0, 0, 0);
        d.addLot(0, 100);
        d.addLot(0, 101);
        d.addVat(300);
        d.dye(0, 0, 5, 5, 5);
        d.dye(1, 0, 5, 5, 5);
        Check.due("used(0)", d.used(0), 150L + 152L);
        Check.due("used(1)", d.used(1), 0L);
        Check.due("used(2)", d.used(2), 33L + 34L);
        Check.due("stock(0)", d.stock(0), 98);
        Check.due("stock(1)", d.stock(1), 9);
        Check.due("stock(2)", d.stock(2), 33);
        d.supply(0, 5);
        Check.due("a supply leaves what was used", d.used(0), 302L);
    }
}
