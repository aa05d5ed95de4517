/**
 * The promises' own sentences on what is answered at an edge: without lots, with one alone, of several alike, at a
 * limit, and up to an object's 512th call. The bounds of the terms are held in TermsOfThingsTest and TermsOfWorkTest,
 * the "Throws" lines in RefusedCallsTest.
 */
public final class EdgesOfAnswersTest {
    public static void main(String[] args) {
        aRecipeWithoutDyes();
        theGramsBefore();
        upToTheLimitOfTheStock();
        roomInTheStockAgain();
        aLotWaits();
        cleanedWithOrWithoutAShade();
        aVerdictOfNow();
        lotsThatWaitThen();
        plannedThen();
        byRisingNumbers();
        noHoursWithoutLots();
        theFirstWithTheLowestNumber();
        theFirstBehindACleaning();
        partsOfAShade();
        theSameLotTwice();
        theNearestWithTheLowestNumber();
        theOrderByLight();
        fewerThanTwoLots();
        notLateOrAllWait();
        duesOfSeveralOrders();
        usedSoFar();
        theShareAsFloat();
        theMeanAsDouble();
        fiveHundredAndTwelveCalls();
        manyDyeingsOfOneLot();
        Check.close();
    }

    private static DyehouseLedger house(int bound) {
        DyehouseLedger d = new DyehouseLedger();
        d.addRecipe(10, 10, 10);
        d.addOrder(0, 0, bound, 0, 1);
        d.addVat(300);
        return d;
    }

    private static int dyed(DyehouseLedger d, int light, int red, int blue) {
        int lot = d.addLot(0, 10);
        d.clean(0);
        d.dye(lot, 0, light, red, blue);
        return lot;
    }

    /** Promise 2: "Adds a recipe without dyes." "Returns the number of the recipe." */
    private static void aRecipeWithoutDyes() {
        DyehouseLedger d = new DyehouseLedger();
        for (int recipe = 0; recipe < 8; recipe++) {
            Check.due("addRecipe", d.addRecipe(20, 0, recipe), recipe);
            for (int dye = 0; dye < 3; dye++) {
                Check.due("dye " + dye + " of recipe " + recipe, d.setDye(recipe, dye, 5000 - recipe), 0);
            }
        }
    }

    /** Promise 3: "Returns the grams before." */
    private static void theGramsBefore() {
        DyehouseLedger d = house(0);
        int before = 0;
        for (int grams : new int[] {5000, 0, 1, 1, 4999, 5000}) {
            Check.due("setDye to " + grams, d.setDye(0, 2, grams), before);
            before = grams;
        }
        Check.throwsOnly(IllegalArgumentException.class, "a refused call between", () -> d.setDye(0, 2, 5001));
        Check.due("the grams are as before it", d.setDye(0, 2, 0), 5000);
    }

    /** Promise 4: "1 to 99999", and IllegalStateException "if there would be more than 9999999". */
    private static void upToTheLimitOfTheStock() {
        for (int dye = 0; dye < 3; dye++) {
            DyehouseLedger d = new DyehouseLedger();
            int full = dye;
            Check.due("1 gram", d.supply(dye, 1), 1);
            for (int times = 1; times <= 100; times++) {
                Check.due("99999 grams", d.supply(dye, 99999), 1 + times * 99999);
            }
            Check.throwsOnly(IllegalStateException.class, "10000000 in all", () -> d.supply(full, 99));
            Check.due("9999998 in all", d.supply(dye, 97), 9999998);
            Check.throwsOnly(IllegalStateException.class, "one more than can be", () -> d.supply(full, 2));
            Check.due("9999999 in all", d.supply(dye, 1), 9999999);
            Check.throwsOnly(IllegalStateException.class, "1 gram more", () -> d.supply(full, 1));
            Check.due("the stock", d.stock(dye), 9999999);
            Check.due("another dye has a stock of its own", d.supply((dye + 1) % 3, 99999), 99999);
        }
    }

    /** Promise 4: the limit is that of the stock, not of all that was brought. */
    private static void roomInTheStockAgain() {
        DyehouseLedger d = house(0);
        for (int times = 0; times < 100; times++) {
            d.supply(0, 99999);
        }
        d.supply(0, 99);
        d.setDye(0, 0, 5000);
        d.addLot(0, 200);
        d.dye(0, 0, 10, 10, 10);
        Check.due("10000 grams are gone", d.stock(0), 9989999);
        Check.throwsOnly(IllegalStateException.class, "10001 grams", () -> d.supply(0, 10001));
        Check.due("10000 grams", d.supply(0, 10000), 9999999);
        Check.due("used", d.used(0), 10000L);
    }

    /** Promise 7: "Adds a lot, which waits." */
    private static void aLotWaits() {
        DyehouseLedger d = house(0);
        Check.due("addLot", d.addLot(0, 200), 0);
        Check.due("stateOf", d.stateOf(0), 'w');
        Check.due("lots()", d.lots(), 1);
        Check.throwsOnly(IllegalStateException.class, "it is in no plan", () -> d.unplan(0));
    }

    /** Promise 13: "Cleans a vat, whether it has a shade or not." "Returns its clock then." */
    private static void cleanedWithOrWithoutAShade() {
        DyehouseLedger d = house(0);
        Check.due("without", d.clean(0), 3);
        d.addLot(0, 10);
        d.dye(0, 0, 10, 10, 10);
        Check.due("with", d.clean(0), 11);
        Check.due("without again", d.clean(0), 14);
        Check.due("cleanings", d.cleanings(0), 3);
    }

    /** Promise 14: "Returns how a lot would be judged now", and changes nothing. */
    private static void aVerdictOfNow() {
        DyehouseLedger d = house(2);
        dyed(d, 12, 10, 10);
        dyed(d, 8, 10, 10);
        Check.due("both would be passed", "" + d.verdict(0) + d.verdict(1), "pp");
        Check.due("they are still dyed", "" + d.stateOf(0) + d.stateOf(1), "dd");
        d.judge(1);
        Check.due("now the first one is apart", d.verdict(0), 'a');
        Check.throwsOnly(IllegalStateException.class, "the other one is judged", () -> d.verdict(1));
    }

    /** Promise 16: "Returns the number of lots that wait then", those of all orders. */
    private static void lotsThatWaitThen() {
        DyehouseLedger d = house(0);
        d.addOrder(1, 0, 0, 0, 0);
        for (int lot = 0; lot < 3; lot++) {
            dyed(d, 0, 0, 0);
            d.judge(lot);
        }
        dyed(d, 0, 0, 0);
        dyed(d, 10, 10, 10);
        d.judge(4);
        Check.due("none waits but this one", d.again(1), 1);
        d.addLot(1, 10);
        Check.due("and one of another order", d.again(0), 3);
        d.plan(5, 0);
        Check.due("a planned one waits too", d.again(2), 4);
    }

    /** Promises 17 to 19: the number planned then, and the vat. */
    private static void plannedThen() {
        DyehouseLedger d = house(0);
        d.addVat(300);
        for (int lot = 0; lot < 7; lot++) {
            d.addLot(0, 10);
        }
        Check.due("none planned", d.planned(0), 0);
        for (int lot = 6; lot >= 1; lot--) {
            Check.due("plan(" + lot + ")", d.plan(lot, 0), 7 - lot);
        }
        Check.due("six are planned", d.planned(0), 6);
        Check.due("for the other vat", d.plan(0, 1), 1);
        for (int lot = 1; lot < 7; lot++) {
            Check.due("unplan(" + lot + ")", d.unplan(lot), 0);
            Check.due("planned(0)", d.planned(0), 6 - lot);
        }
        Check.due("unplan(0)", d.unplan(0), 1);
    }

    /** Promise 20: "by rising numbers", however they were planned. */
    private static void byRisingNumbers() {
        DyehouseLedger d = house(0);
        d.addVat(300);
        for (int lot = 0; lot < 24; lot++) {
            d.addLot(0, 10);
        }
        int[] planned = {23, 0, 11, 12, 1, 7};
        for (int lot : planned) {
            d.plan(lot, 1);
        }
        int[] due = {0, 1, 7, 11, 12, 23};
        for (int place = 0; place < 6; place++) {
            Check.due("plannedAt(1, " + place + ")", d.plannedAt(1, place), due[place]);
        }
        d.unplan(0);
        Check.due("the first place", d.plannedAt(1, 0), 1);
        Check.due("the last place", d.plannedAt(1, 4), 23);
        Check.throwsOnly(IndexOutOfBoundsException.class, "the place behind it", () -> d.plannedAt(1, 5));
        Check.throwsOnly(IndexOutOfBoundsException.class, "an empty plan", () -> d.plannedAt(0, 0));
    }

    /** Promises 21 and 22: "0 without lots", whatever state the vat is in. */
    private static void noHoursWithoutLots() {
        DyehouseLedger d = house(0);
        Check.due("a new vat", d.leastHours(0) + d.leastByAll(0), 0);
        dyed(d, 10, 10, 10);
        d.judge(0);
        Check.due("a barred one", d.leastHours(0) + d.leastByAll(0), 0);
        d.addLot(0, 200);
        d.plan(1, 0);
        Check.due("one lot by the search", d.leastHours(0), 8);
        Check.due("one lot by all", d.leastByAll(0), 8);
        d.unplan(1);
        Check.due("taken out again", d.leastHours(0) + d.leastByAll(0), 0);
    }

    /** Promise 23: "of several such lots, the one with the lowest number" */
    private static void theFirstWithTheLowestNumber() {
        DyehouseLedger d = house(30);
        d.addRecipe(15, 10, 10);
        d.addOrder(1, 1, 30, 0, 0);
        d.addOrder(2, 1, 30, 0, 0);
        int[] orders = {0, 2, 1, 1, 0, 2};
        for (int order : orders) {
            d.addLot(order, 10);
        }
        for (int lot = 5; lot >= 0; lot--) {
            d.plan(lot, 0);
            Check.due("leastHours", d.leastHours(0), 5 * (6 - lot));
        }
        Check.due("lots 1, 2, 3 and 5 can come first", d.firstOf(0), 1);
        d.unplan(1);
        Check.due("lots 2, 3 and 5 can", d.firstOf(0), 2);
        d.unplan(2);
        d.unplan(3);
        Check.due("only the last one can", d.firstOf(0), 5);
        d.unplan(5);
        Check.due("lots 0 and 4 are alike", d.firstOf(0), 0);
        Check.due("asking plans nothing", d.planned(0), 2);
    }

    /** Promise 23: a cleaning ahead of the first lot itself counts. */
    private static void theFirstBehindACleaning() {
        DyehouseLedger d = new DyehouseLedger();
        d.addVat(300);
        int[] lights = {3, 12, 15, 14, 3};
        for (int i = 0; i < lights.length; i++) {
            d.addRecipe(lights[i], 10, 10);
            d.addOrder(0, i, 30, 0, 0);
            d.addLot(i, 10);
        }
        d.dye(0, 0, 10, 10, 10);
        d.plan(1, 0);
        d.plan(2, 0);
        d.plan(3, 0);
        Check.due("one cleaning", d.leastHours(0), 18);
        Check.due("ahead of the lightest one", d.firstOf(0), 2);
        d.plan(4, 0);
        Check.due("one cleaning with a darker lot", d.leastHours(0), 23);
        Check.due("ahead of the lightest one or behind the darker one", d.firstOf(0), 2);
        d.unplan(2);
        Check.due("the next lightest one", d.firstOf(0), 3);
        d.unplan(3);
        Check.due("the only light one", d.firstOf(0), 1);
        d.unplan(1);
        Check.due("without a cleaning", d.firstOf(0), 4);
    }

    /** Promise 27: "0 for how light it is, 1 for how red, 2 for how blue" */
    private static void partsOfAShade() {
        DyehouseLedger d = house(30);
        dyed(d, 1, 20, 0);
        Check.due("light", d.shadeOf(0, 0), 1);
        Check.due("red", d.shadeOf(0, 1), 20);
        Check.due("blue", d.shadeOf(0, 2), 0);
    }

    /** Promise 30: "another lot, or the same one" */
    private static void theSameLotTwice() {
        DyehouseLedger d = house(30);
        dyed(d, 20, 0, 20);
        Check.due("itself", d.distance(0, 0), 0);
        d.addLot(0, 10);
        Check.throwsOnly(IllegalStateException.class, "itself, but it waits", () -> d.distance(1, 1));
        Check.throwsOnly(java.util.NoSuchElementException.class, "itself, but there is none", () -> d.distance(2, 2));
    }

    /** Promise 31: "of all other lots that are passed, of whatever order"; "of several, the one with the lowest number" */
    private static void theNearestWithTheLowestNumber() {
        DyehouseLedger d = house(30);
        d.addOrder(1, 0, 30, 0, 0);
        int[][] shades = {{10, 10, 14}, {10, 14, 10}, {10, 10, 10}, {10, 10, 6}, {10, 10, 10}};
        for (int[] shade : shades) {
            dyed(d, shade[0], shade[1], shade[2]);
        }
        d.judge(3);
        Check.due("the only one that is passed", d.nearest(2), 3);
        Check.throwsOnly(UnsupportedOperationException.class, "itself does not count", () -> d.nearest(3));
        d.judge(1);
        Check.due("as near, with a lower number", d.nearest(2), 1);
        d.judge(0);
        Check.due("the lowest of three", d.nearest(2), 0);
        d.judge(4);
        Check.due("nearer, with the highest number", d.nearest(2), 4);
        d.judge(2);
        Check.due("a passed one asks", d.nearest(2), 4);
        Check.due("and answers", d.nearest(4), 2);
        d.addLot(1, 10);
        d.clean(0);
        d.dye(5, 0, 20, 20, 20);
        Check.due("of another order, as far from 0 and 1", d.nearest(5), 0);
        d.judge(5);
        Check.due("the one of the other order does not come between", d.nearest(0), 2);
    }

    /**
     * Promise 32: "the lightest one first, of those that are as light the one that is less red, then the one that is
     * less blue, then the one with the lower number"
     */
    private static void theOrderByLight() {
        DyehouseLedger d = house(28);
        int[][] shades = {
            {5, 9, 12}, {5, 9, 12}, {5, 9, 11}, {5, 8, 20}, {6, 20, 20}, {4, 0, 0}, {20, 20, 20}, {0, 0, 0}, {20, 20, 19}, {5, 9, 12},
        };
        for (int[] shade : shades) {
            dyed(d, shade[0], shade[1], shade[2]);
        }
        int[] due = {8, 6, 4, 3, 2, 0, 1, 9, 5, 7};
        for (int place = 0; place < due.length; place++) {
            Check.due("byLight(" + place + ")", d.byLight(place), due[place]);
        }
        Check.throwsOnly(IndexOutOfBoundsException.class, "behind the last place", () -> d.byLight(10));
        Check.throwsOnly(IndexOutOfBoundsException.class, "ahead of the first place", () -> d.byLight(-1));
        d.addLot(0, 10);
        Check.throwsOnly(IndexOutOfBoundsException.class, "a waiting lot has no place", () -> d.byLight(10));
        d.judge(8);
        d.judge(0);
        Check.due("the lightest one is refused", d.stateOf(8), 'x');
        Check.due("a refused one keeps its place", d.byLight(0), 8);
        Check.due("a passed one too", d.byLight(5), 0);
        Check.due("and those behind them", d.byLight(9), 7);
        d.again(8);
        Check.due("one that waits again has none", d.byLight(0), 6);
        Check.due("those behind it come up", d.byLight(8), 7);
        Check.throwsOnly(IndexOutOfBoundsException.class, "one place less", () -> d.byLight(9));
    }

    /** Promise 39: "0 for fewer than two lots" */
    private static void fewerThanTwoLots() {
        DyehouseLedger d = house(10);
        Check.due("no lot", d.spread(0), 0);
        dyed(d, 15, 10, 10);
        dyed(d, 10, 15, 10);
        dyed(d, 10, 10, 10);
        Check.due("none is passed", d.spread(0), 0);
        d.judge(0);
        Check.due("one is passed", d.spread(0), 0);
        d.judge(2);
        Check.due("two are passed", d.spread(0), 5);
        d.judge(1);
        Check.due("three are passed", d.spread(0), 10);
    }

    /** Promise 40: "0 if it is not late, or all its lots wait" */
    private static void notLateOrAllWait() {
        DyehouseLedger d = new DyehouseLedger();
        d.addRecipe(10, 10, 10);
        d.addVat(300);
        d.addOrder(0, 0, 0, 2, 0);
        d.addLot(0, 10);
        d.addLot(0, 10);
        for (int times = 0; times < 22; times++) {
            d.clean(0);
        }
        Check.due("all its lots wait", d.lateBy(0), 0);
        Check.due("71 hours", d.dye(0, 0, 10, 10, 10), 71);
        Check.due("just on its day", d.lateBy(0), 0);
        Check.due("76 hours", d.dye(1, 0, 10, 10, 10), 76);
        Check.due("late", d.lateBy(0), 1);
    }

    /** Promise 42: "Returns what is due for all orders of a customer." */
    private static void duesOfSeveralOrders() {
        DyehouseLedger d = new DyehouseLedger();
        d.addRecipe(10, 10, 10);
        d.addVat(300);
        Check.due("no orders", d.dues(0), 0L);
        int[] customers = {3, 0, 3, 1, 3, 3};
        for (int order = 0; order < 6; order++) {
            d.addOrder(customers[order], 0, 0, 99, 1 + order);
            d.addLot(order, 10);
            d.clean(0);
            d.dye(order, 0, 10, 10, order == 4 ? 0 : 10);
            d.judge(order);
        }
        long[] due = {20, 40, 0, 10 + 30 + 60};
        for (int customer = 0; customer < 4; customer++) {
            Check.due("dues(" + customer + ")", d.dues(customer), due[customer]);
        }
    }

    /** Promise 43: "how many grams of a dye went from the stock so far", those of a lot that waits again too. */
    private static void usedSoFar() {
        DyehouseLedger d = house(0);
        d.setDye(0, 1, 101);
        d.supply(1, 1000);
        d.addLot(0, 1);
        for (int times = 1; times <= 3; times++) {
            d.clean(0);
            d.dye(0, 0, 0, 0, 0);
            Check.due("used behind dyeing " + times, d.used(1), 2L * times);
            Check.due("stock behind dyeing " + times, d.stock(1), 1000 - 2 * times);
            d.judge(0);
            d.again(0);
        }
        d.setDye(0, 1, 5000);
        Check.due("what was used stays, though the recipe changes", d.used(1), 6L);
    }

    /** Promise 44: "the number of the first ones divided by that of all of these, both converted to float" */
    private static void theShareAsFloat() {
        float[] due = {1f, 0.5f, 0.33333334f, 0.25f, 0.2f, 0.16666667f, 0.14285715f};
        DyehouseLedger d = house(0);
        for (int lot = 0; lot < 7; lot++) {
            dyed(d, lot == 0 ? 10 : 0, 10, 10);
            d.judge(lot);
            Check.due("one of " + (1 + lot), d.passedShare(), due[lot]);
        }
        for (int lot = 7; lot < 12; lot++) {
            dyed(d, 10, 10, 10);
            d.judge(lot);
        }
        Check.due("6 of 12", d.passedShare(), 0.5f);
        dyed(d, 10, 10, 10);
        d.judge(12);
        Check.due("7 of 13", d.passedShare(), 0.53846157f);
    }

    /** Promise 45: "the sum divided by the number of these lots, both converted to double" */
    private static void theMeanAsDouble() {
        DyehouseLedger d = house(0);
        double[] due = {1.0, 0.5, 0.3333333333333333, 0.25, 0.2, 0.16666666666666666, 0.14285714285714285};
        for (int lot = 0; lot < 7; lot++) {
            dyed(d, 10, lot == 0 ? 9 : 10, 10);
            Check.due("1 over " + (1 + lot), d.meanOff(), due[lot]);
        }
        DyehouseLedger far = new DyehouseLedger();
        far.addRecipe(0, 0, 0);
        far.addOrder(0, 0, 0, 0, 0);
        far.addVat(300);
        for (int lot = 0; lot < 24; lot++) {
            dyed(far, 20, 20, 20);
        }
        Check.due("all as far off as can be", far.meanOff(), 60.0);
    }

    /** "An object is used for at most 512 calls": the last of them answers as the first ones did. */
    private static void fiveHundredAndTwelveCalls() {
        DyehouseLedger d = house(0);
        for (int times = 1; times <= 507; times++) {
            Check.due("cleaned " + times + " times", d.clean(0), 3 * times);
        }
        Check.due("cleanings", d.cleanings(0), 507);
        Check.due("the 512th call", d.clean(0), 1524);
    }

    /** One lot dyed, refused and made to wait again for as many calls as an object serves. */
    private static void manyDyeingsOfOneLot() {
        DyehouseLedger d = house(0);
        d.addLot(0, 200);
        int clock = 0;
        for (int times = 1; times <= 125; times++) {
            clock += 11;
            d.clean(0);
            Check.due("dyed " + times + " times", d.dye(0, 0, times % 21, 0, 0), clock);
            d.judge(0);
            Check.due("again", d.again(0), 1);
        }
        d.dye(0, 0, 10, 10, 10);
        Check.due("passed in the end", d.judge(0), true);
        Check.due("days late behind 1383 hours", d.lateBy(0), 57);
    }
}
