/**
 * The terms "Dyeing", "Judging", "Plans" and "Dues", sentence by sentence: each sentence that names a bound or a case
 * of its own stands above the test that holds the class to it.
 */
public final class TermsOfWorkTest {
    public static void main(String[] args) {
        theFirstReasonThatApplies();
        lessLight();
        barredForTheCustomer();
        lessOfADye();
        dyesGoFromTheStock();
        tooFarOff();
        apart();
        apartFromPassedLotsOfItsOrder();
        refusedLots();
        passedLotsBarTheirVat();
        unlessItHasBeenCleaned();
        refusedLotsWaitAgain();
        noOrderIsSpreadBeyondItsBound();
        sixInEachPlan();
        inOnePlanAtMost();
        dyedLotsArePlannedNoMore();
        cleaningAheadOfDarkOrBarred();
        shadesOfTheRecipes();
        theVatAsItIsNow();
        nonePassedInBetween();
        dyesAreNotLookedAt();
        daysRoundedDown();
        theClockBehindTheDyeing();
        lotsThatDoNotWait();
        daysAboveTheDueDay();
        lessAHundredADay();
        notLessThanNothing();
        theGreatestDue();
        Check.close();
    }

    /** Recipe 0 of the shade 10, 10, 10; orders 0 to 3 of the customers 0 to 3 with this bound; vats 0 and 1 for all lots. */
    private static DyehouseLedger house(int bound) {
        DyehouseLedger d = new DyehouseLedger();
        d.addRecipe(10, 10, 10);
        for (int customer = 0; customer < 4; customer++) {
            d.addOrder(customer, 0, bound, 0, 1);
        }
        d.addVat(300);
        d.addVat(300);
        return d;
    }

    /** A new lot of ten kilograms, dyed in a cleaned vat. */
    private static int dyed(DyehouseLedger d, int order, int vat, int light, int red, int blue) {
        int lot = d.addLot(order, 10);
        d.clean(vat);
        d.dye(lot, vat, light, red, blue);
        return lot;
    }

    private static int passed(DyehouseLedger d, int order, int vat, int light, int red, int blue) {
        int lot = dyed(d, order, vat, light, red, blue);
        Check.due("lot " + lot + " is passed", d.judge(lot), true);
        return lot;
    }

    private static void cleanTimes(DyehouseLedger d, int vat, int times) {
        for (int i = 0; i < times; i++) {
            d.clean(vat);
        }
    }

    /** "A lot cannot be dyed in a vat for the first of these reasons that applies": any set of reasons that apply. */
    private static void theFirstReasonThatApplies() {
        String letters = "whsbg";
        for (int set = 0; set < 32; set++) {
            StringBuilder applying = new StringBuilder();
            for (int i = 0; i < 5; i++) {
                if ((set & 1 << i) != 0) {
                    applying.append(letters.charAt(i));
                }
            }
            checkReasons(applying.toString());
        }
    }

    private static void checkReasons(String applying) {
        DyehouseLedger d = new DyehouseLedger();
        d.addRecipe(10, 10, 10);
        d.addOrder(0, 0, 30, 0, 1);
        d.addOrder(1, 0, 30, 0, 1);
        d.addLot(0, 50);
        d.addLot(1, 10);
        d.addVat(applying.contains("h") ? 49 : 50);
        d.addVat(300);
        d.dye(1, 0, applying.contains("s") ? 9 : 10, 10, 10);
        if (applying.contains("b")) {
            d.judge(1);
        }
        if (applying.contains("w")) {
            d.dye(0, 1, 10, 10, 10);
        }
        d.supply(2, 49);
        d.setDye(0, 2, applying.contains("g") ? 100 : 98);
        Check.due("reason where '" + applying + "' apply", d.reason(0, 0), applying.isEmpty() ? '-' : applying.charAt(0));
        Check.due("dye where '" + applying + "' apply", Check.outcome(() -> d.dye(0, 0, 10, 10, 10)),
                applying.isEmpty() ? "10" : "throws.UnsupportedOperationException");
        Check.due("clock where '" + applying + "' apply", d.clock(0), applying.isEmpty() ? 10 : 5);
        Check.due("stock where '" + applying + "' apply", d.stock(2), applying.isEmpty() ? 0 : 49);
    }

    /** "'s', the vat has a shade that is less light than that of the lot's recipe, that is, its first number is less" */
    private static void lessLight() {
        int[][] shades = {
            {9, 0, 0, 's'}, {9, 20, 20, 's'}, {0, 10, 10, 's'}, {10, 0, 0, '-'}, {10, 20, 20, '-'}, {11, 0, 20, '-'},
            {20, 20, 0, '-'},
        };
        for (int[] shade : shades) {
            DyehouseLedger d = house(30);
            dyed(d, 0, 0, shade[0], shade[1], shade[2]);
            d.addLot(0, 10);
            Check.due("light 10 behind " + shade[0] + ", " + shade[1], d.reason(1, 0), (char) shade[3]);
        }
        DyehouseLedger none = house(30);
        none.addLot(0, 10);
        Check.due("a vat without a shade", none.reason(0, 0), '-');
        dyed(none, 0, 0, 0, 0, 0);
        none.clean(0);
        Check.due("a cleaned vat", none.reason(0, 0), '-');
        none.addRecipe(0, 20, 20);
        none.addOrder(0, 1, 30, 0, 0);
        none.addLot(4, 10);
        none.dye(0, 0, 0, 0, 0);
        Check.due("no shade is less light than the least light recipe", none.reason(2, 0), '-');
    }

    /** "'b', the vat is barred for the customer of the lot's order": the customer counts, not the order. */
    private static void barredForTheCustomer() {
        DyehouseLedger d = house(30);
        d.addOrder(0, 0, 0, 0, 0);
        passed(d, 0, 0, 10, 10, 10);
        for (int order = 0; order < 5; order++) {
            d.addLot(order, 10);
            Check.due("order " + order, d.reason(1 + order, 0), order % 4 == 0 ? '-' : 'b');
            Check.due("order " + order + " in another vat", d.reason(1 + order, 1), '-');
        }
    }

    /** "'g', there is less of a dye in stock than the recipe needs for it" */
    private static void lessOfADye() {
        for (int dye = 0; dye < 3; dye++) {
            DyehouseLedger d = house(30);
            d.addLot(0, 200);
            d.setDye(0, dye, 201);
            Check.due("nothing in stock of dye " + dye, d.reason(0, 0), 'g');
            d.supply(dye, 401);
            Check.due("a gram less", d.reason(0, 0), 'g');
            d.supply(dye, 1);
            Check.due("just as much", d.reason(0, 0), '-');
            d.setDye(0, (dye + 1) % 3, 1);
            Check.due("less of another dye", d.reason(0, 0), 'g');
        }
    }

    /** "When it is dyed, the dyes go from the stock, and the shade that came out is told." */
    private static void dyesGoFromTheStock() {
        DyehouseLedger d = house(30);
        d.addLot(0, 101);
        d.setDye(0, 0, 100);
        d.setDye(0, 1, 1);
        d.supply(0, 101);
        d.supply(1, 5);
        d.supply(2, 7);
        d.dye(0, 0, 20, 0, 3);
        int[] left = {0, 3, 7};
        for (int dye = 0; dye < 3; dye++) {
            Check.due("stock of dye " + dye, d.stock(dye), left[dye]);
            Check.due("used of dye " + dye, d.used(dye), new long[] {101, 2, 0}[dye]);
        }
        Check.due("light", d.shadeOf(0, 0), 20);
        Check.due("red", d.shadeOf(0, 1), 0);
        Check.due("blue", d.shadeOf(0, 2), 3);
        d.judge(0);
        Check.due("judging leaves the stock", d.stock(1), 3);
    }

    /** "it is too far off, 'f', if its shade is further from that of its recipe than the bound of its order" */
    private static void tooFarOff() {
        for (int bound = 0; bound <= 29; bound++) {
            DyehouseLedger d = house(bound);
            int near = dyed(d, 0, 0, 10 + Math.min(bound, 10), 10 - Math.max(0, Math.min(bound - 10, 10)), 10 + Math.max(0, bound - 20));
            Check.due("off by the bound", d.offBy(near), bound);
            Check.due("off by the bound " + bound, d.verdict(near), 'p');
            int past = bound + 1;
            int far = dyed(d, 1, 1, 10 - Math.min(past, 10), 10 + Math.max(0, Math.min(past - 10, 10)), 10 - Math.max(0, past - 20));
            Check.due("off by one more", d.offBy(far), past);
            Check.due("off by one more than " + bound, d.verdict(far), 'f');
        }
    }

    /** "otherwise it is apart, 'a', if its shade is further than the bound from that of a lot of its order that is passed" */
    private static void apart() {
        DyehouseLedger d = house(6);
        passed(d, 0, 0, 13, 10, 10);
        int near = dyed(d, 0, 0, 10, 7, 10);
        Check.due("as far as the bound", d.distance(0, near), 6);
        Check.due("as far as the bound from a passed lot", d.verdict(near), 'p');
        int apart = dyed(d, 0, 0, 10, 7, 11);
        Check.due("one further", d.distance(0, apart), 7);
        Check.due("one further from a passed lot", d.verdict(apart), 'a');
        int both = dyed(d, 0, 0, 3, 10, 10);
        Check.due("off by 7 and further from a passed lot", d.verdict(both), 'f');
        int other = dyed(d, 0, 0, 16, 10, 10);
        Check.due("off by 6, and close to the passed lot", d.verdict(other), 'p');
        d.judge(near);
        Check.due("apart from the one that was passed last", d.verdict(other), 'a');
    }

    /** "of a lot of its order that is passed": no lot of another order, none that is only dyed, refused, or waits again. */
    private static void apartFromPassedLotsOfItsOrder() {
        DyehouseLedger d = house(4);
        d.addOrder(0, 0, 30, 0, 0);
        passed(d, 4, 0, 20, 20, 20);
        dyed(d, 0, 0, 12, 8, 10);
        int judged = dyed(d, 0, 0, 10, 12, 12);
        Check.due("another order's lot, and one only dyed", d.verdict(judged), 'p');
        d.judge(judged);
        Check.due("now that one is apart", d.verdict(1), 'a');
        Check.due("and is refused", d.judge(1), false);
        int next = dyed(d, 0, 0, 10, 12, 12);
        Check.due("far from a refused one", d.distance(1, next), 8);
        Check.due("a refused one does not count", d.verdict(next), 'p');
        d.again(1);
        Check.due("nor does it when it waits again", d.verdict(next), 'p');
    }

    /** "A lot that is too far off or apart is refused." */
    private static void refusedLots() {
        DyehouseLedger d = house(4);
        passed(d, 0, 0, 12, 8, 10);
        int far = dyed(d, 0, 0, 10, 10, 15);
        int apart = dyed(d, 0, 1, 10, 12, 10);
        Check.due("verdict on the far one", d.verdict(far), 'f');
        Check.due("verdict on the other one", d.verdict(apart), 'a');
        for (int lot = far; lot <= apart; lot++) {
            Check.due("judge(" + lot + ")", d.judge(lot), false);
            Check.due("stateOf(" + lot + ")", d.stateOf(lot), 'x');
        }
        Check.due("none of them is passed", d.passedOf(0), 1);
    }

    /**
     * "When a lot is passed, the vat in which it was dyed is barred for all customers but that of its order, in place of
     * an earlier one"
     */
    private static void passedLotsBarTheirVat() {
        DyehouseLedger d = house(4);
        for (int order = 0; order < 4; order++) {
            d.addLot(order, 10);
            d.dye(order, 1, 10, 10, order == 2 ? 20 : 10);
        }
        for (int order = 0; order < 4; order++) {
            d.judge(order);
            Check.due("customerOf behind lot " + order, d.customerOf(1), order == 2 ? 1 : order);
            Check.due("the other vat", Check.outcome(() -> d.customerOf(0)), "throws.IllegalStateException");
        }
    }

    /** "unless it has been cleaned since this lot was dyed" */
    private static void unlessItHasBeenCleaned() {
        DyehouseLedger d = house(4);
        for (int lot = 0; lot < 4; lot++) {
            d.addLot(lot % 2, 10);
        }
        cleanTimes(d, 0, 2);
        d.dye(0, 0, 10, 10, 10);
        d.clean(1);
        d.judge(0);
        Check.due("cleaned before, and another vat since", d.customerOf(0), 0);
        d.clean(0);
        d.dye(1, 0, 10, 10, 10);
        d.clean(0);
        d.judge(1);
        Check.throwsOnly(IllegalStateException.class, "cleaned since", () -> d.customerOf(0));
        d.dye(2, 0, 10, 10, 20);
        d.judge(2);
        d.again(2);
        d.clean(0);
        d.dye(2, 0, 10, 10, 10);
        d.judge(2);
        Check.due("cleaned between its two dyeings alone", d.customerOf(0), 0);
        d.clean(0);
        d.dye(3, 0, 10, 10, 20);
        d.judge(3);
        d.again(3);
        d.dye(3, 1, 10, 10, 10);
        d.clean(0);
        d.judge(3);
        Check.due("the vat in which it was dyed last", d.customerOf(1), 1);
        Check.throwsOnly(IllegalStateException.class, "not the one before", () -> d.customerOf(0));
    }

    /** "A lot that is refused can be made to wait again." */
    private static void refusedLotsWaitAgain() {
        DyehouseLedger d = house(4);
        for (int lot = 0; lot < 23; lot++) {
            d.addLot(lot % 4, 10);
        }
        dyed(d, 0, 0, 0, 0, 0);
        Check.throwsOnly(IllegalStateException.class, "again of a dyed lot", () -> d.again(23));
        d.judge(23);
        Check.due("all 24 wait", d.again(23), 24);
        Check.throwsOnly(IllegalStateException.class, "again of a waiting lot", () -> d.again(23));
        DyehouseLedger one = house(4);
        dyed(one, 0, 0, 0, 0, 0);
        passed(one, 0, 1, 10, 10, 10);
        one.judge(0);
        Check.throwsOnly(IllegalStateException.class, "again of a passed lot", () -> one.again(1));
        Check.due("it alone waits", one.again(0), 1);
    }

    /** "No order has two lots that are passed whose shades are further apart than its bound." */
    private static void noOrderIsSpreadBeyondItsBound() {
        for (int bound = 0; bound <= 30; bound++) {
            DyehouseLedger d = house(bound);
            for (int lot = 0; lot < 24; lot++) {
                // From 11 off to one side and 11 off to the other one, towards the recipe's own shade.
                int off = (11 - lot / 2) * (lot % 2 == 0 ? 1 : -1);
                dyed(d, 0, 0, Math.max(0, Math.min(20, 10 + off)), 10 + off / 11, 10);
                d.judge(lot);
                Check.due("spread of bound " + bound, d.spread(0) <= bound, true);
            }
            Check.due("spread reaches bound " + bound, d.spread(0), Math.min(bound, 22));
        }
    }

    /** "Lots that wait can be planned for a vat, at most 6 for each" */
    private static void sixInEachPlan() {
        DyehouseLedger d = house(4);
        d.addVat(300);
        d.addVat(300);
        for (int lot = 0; lot < 24; lot++) {
            d.addLot(lot % 4, 10);
        }
        for (int lot = 0; lot < 24; lot++) {
            int vat = lot / 6;
            Check.due("plan(" + lot + ")", d.plan(lot, vat), lot % 6 + 1);
            int next = lot + 1;
            if (lot % 6 == 5 && next < 24) {
                Check.throwsOnly(IllegalStateException.class, "a seventh for vat " + vat, () -> d.plan(next, vat));
            }
        }
        for (int vat = 0; vat < 4; vat++) {
            Check.due("planned(" + vat + ")", d.planned(vat), 6);
            Check.due("the last one", d.plannedAt(vat, 5), 6 * vat + 5);
            Check.due("leastHours(" + vat + ")", d.leastHours(vat), 30);
            Check.due("leastByAll(" + vat + ")", d.leastByAll(vat), 30);
        }
    }

    /** "and each one for at most one vat" */
    private static void inOnePlanAtMost() {
        DyehouseLedger d = house(4);
        d.addLot(0, 10);
        d.plan(0, 0);
        Check.throwsOnly(IllegalStateException.class, "into another plan", () -> d.plan(0, 1));
        Check.throwsOnly(IllegalStateException.class, "into the same plan", () -> d.plan(0, 0));
        Check.due("planned(0)", d.planned(0), 1);
        Check.due("planned(1)", d.planned(1), 0);
        d.unplan(0);
        Check.due("once out of it", d.plan(0, 1), 1);
        Check.due("unplan tells the vat", d.unplan(0), 1);
    }

    /** "a lot that is dyed is planned no more" */
    private static void dyedLotsArePlannedNoMore() {
        for (int vat = 0; vat < 2; vat++) {
            DyehouseLedger d = house(4);
            d.addLot(0, 10);
            d.addLot(0, 10);
            d.plan(0, 0);
            d.plan(1, 0);
            d.dye(0, vat, 0, 0, 0);
            Check.due("planned(0), dyed in vat " + vat, d.planned(0), 1);
            Check.due("plannedAt(0, 0)", d.plannedAt(0, 0), 1);
            Check.throwsOnly(IndexOutOfBoundsException.class, "plannedAt(0, 1)", () -> d.plannedAt(0, 1));
            Check.due("firstOf(0)", d.firstOf(0), 1);
            Check.throwsOnly(IllegalStateException.class, "unplan", () -> d.unplan(0));
            Check.throwsOnly(IllegalStateException.class, "plan a dyed lot", () -> d.plan(0, 1));
            d.judge(0);
            Check.throwsOnly(IllegalStateException.class, "plan a refused lot", () -> d.plan(0, 1));
            d.again(0);
            Check.throwsOnly(IllegalStateException.class, "unplan when it waits again", () -> d.unplan(0));
            Check.due("plan it again", d.plan(0, 0), 2);
        }
        DyehouseLedger refused = house(4);
        refused.addLot(0, 10);
        refused.plan(0, 0);
        refused.setDye(0, 0, 10);
        Check.throwsOnly(UnsupportedOperationException.class, "no dye", () -> refused.dye(0, 0, 0, 0, 0));
        Check.due("a lot that was not dyed stays planned", refused.planned(0), 1);
    }

    /** Recipes of the lights given, an order and a lot of 10 kilograms for each; all customers are 0. */
    private static DyehouseLedger planned(int... lights) {
        DyehouseLedger d = new DyehouseLedger();
        d.addVat(300);
        for (int i = 0; i < lights.length; i++) {
            d.addRecipe(lights[i], 10, 10);
            d.addOrder(0, i, 30, 0, 0);
            d.addLot(i, 10);
            d.plan(i, 0);
        }
        return d;
    }

    private static void best(String what, DyehouseLedger d, int hours, int first) {
        Check.due(what + ": leastHours", d.leastHours(0), hours);
        Check.due(what + ": leastByAll", d.leastByAll(0), hours);
        Check.due(what + ": firstOf", d.firstOf(0), first);
    }

    /** "and cleaning the vat ahead of each one that could not be dyed without for the reason 's' or 'b'" */
    private static void cleaningAheadOfDarkOrBarred() {
        best("one lot", planned(10), 5, 0);
        best("as light as each other", planned(10, 10), 10, 0);
        best("lighter first", planned(10, 11), 10, 1);
        best("six lights", planned(0, 4, 8, 12, 16, 20), 30, 5);
        DyehouseLedger d = house(30);
        passed(d, 0, 0, 10, 10, 10);
        d.addLot(1, 10);
        d.plan(1, 0);
        best("barred", d, 8, 1);
        d.addLot(0, 10);
        d.plan(2, 0);
        best("barred for one of two", d, 13, 1);
        d.addLot(2, 10);
        d.plan(3, 0);
        best("a cleaning lifts the bar for all", d, 18, 1);
        d.clean(0);
        best("cleaned already", d, 15, 1);
        DyehouseLedger both = house(30);
        passed(both, 0, 0, 9, 10, 10);
        both.addLot(1, 10);
        both.plan(1, 0);
        best("dark and barred need one cleaning", both, 8, 1);
    }

    /** "the shades that come out are taken to be those of the recipes" */
    private static void shadesOfTheRecipes() {
        DyehouseLedger d = planned(5, 15);
        best("the recipes of what is planned", d, 10, 1);
        d.addLot(0, 10);
        d.dye(2, 0, 12, 10, 10);
        best("behind a shade between them", d, 13, 0);
        d.unplan(1);
        best("the darker one alone", d, 5, 0);
    }

    /** "the vat begins as it is now" */
    private static void theVatAsItIsNow() {
        int[][] due = {{9, 8}, {10, 5}, {11, 5}};
        for (int[] row : due) {
            DyehouseLedger d = house(30);
            dyed(d, 0, 0, row[0], 20, 20);
            d.addLot(1, 10);
            d.plan(1, 0);
            best("behind light " + row[0], d, row[1], 1);
            d.judge(0);
            best("barred behind light " + row[0], d, 8, 1);
            d.clean(0);
            best("cleaned behind light " + row[0], d, 5, 1);
        }
    }

    /** "none is passed in between": lots of several customers follow one another without a cleaning. */
    private static void nonePassedInBetween() {
        DyehouseLedger d = house(30);
        for (int order = 0; order < 4; order++) {
            d.addLot(order, 10);
            d.plan(order, 0);
        }
        best("four customers", d, 20, 0);
    }

    /** "and dyes are not looked at" */
    private static void dyesAreNotLookedAt() {
        DyehouseLedger d = planned(10, 10);
        d.setDye(0, 0, 5000);
        d.setDye(1, 2, 5000);
        Check.due("neither could be dyed now", d.reason(0, 0), 'g');
        best("without any dye", d, 10, 0);
        Check.due("nothing is used", d.used(0), 0L);
    }

    /** "divided by 24 and rounded down" */
    private static void daysRoundedDown() {
        // Hours of cleaning, weight of the lot, clock behind it, day.
        int[][] due = {{6, 10, 23, 0}, {6, 60, 24, 1}, {14, 10, 47, 1}, {14, 60, 48, 2}, {22, 10, 71, 2}, {22, 60, 72, 3}};
        for (int[] row : due) {
            DyehouseLedger d = house(30);
            d.addLot(0, row[1]);
            cleanTimes(d, 0, row[0]);
            Check.due("the clock", d.dye(0, 0, 10, 10, 10), row[2]);
            Check.due("the day behind " + row[2] + " hours", d.lateBy(0), row[3]);
        }
    }

    /** "of the clocks of the vats behind the dyeing of its lots that do not wait, the greatest one" */
    private static void theClockBehindTheDyeing() {
        DyehouseLedger d = house(30);
        d.addLot(0, 10);
        cleanTimes(d, 0, 7);
        d.dye(0, 0, 10, 10, 10);
        Check.due("21 hours before, 26 behind it", d.lateBy(0), 1);
        cleanTimes(d, 0, 40);
        Check.due("what is done later in the vat does not count", d.lateBy(0), 1);
        d.addLot(1, 10);
        d.dye(1, 0, 10, 10, 10);
        Check.due("nor for this order when another one's lot is dyed", d.lateBy(0), 1);
        Check.due("but for that one", d.lateBy(1), 6);
        d.addLot(0, 10);
        d.dye(2, 1, 10, 10, 10);
        Check.due("a lower clock in the other vat", d.lateBy(0), 1);
        d.addLot(0, 10);
        cleanTimes(d, 1, 13);
        d.dye(3, 1, 10, 10, 10);
        Check.due("a greater clock in the other vat", d.lateBy(0), 2);
    }

    /** "of its lots that do not wait" */
    private static void lotsThatDoNotWait() {
        DyehouseLedger d = house(4);
        Check.due("an order without lots", d.lateBy(0), 0);
        d.addLot(0, 10);
        cleanTimes(d, 0, 30);
        Check.due("its only lot waits", d.lateBy(0), 0);
        d.dye(0, 0, 0, 0, 0);
        Check.due("dyed", d.lateBy(0), 3);
        d.judge(0);
        Check.due("refused", d.lateBy(0), 3);
        d.again(0);
        Check.due("it waits again", d.lateBy(0), 0);
        cleanTimes(d, 1, 15);
        d.dye(0, 1, 10, 10, 10);
        Check.due("the last dyeing counts", d.lateBy(0), 2);
        d.judge(0);
        Check.due("passed", d.lateBy(0), 2);
    }

    /** "An order is late by as many days as the day on which its last lot was dyed is above the day on which it is due" */
    private static void daysAboveTheDueDay() {
        DyehouseLedger d = new DyehouseLedger();
        d.addRecipe(10, 10, 10);
        d.addVat(300);
        for (int day = 0; day < 6; day++) {
            d.addOrder(0, 0, 30, day, 1);
            d.addLot(day, 1);
        }
        cleanTimes(d, 0, 24);
        for (int day = 0; day < 6; day++) {
            d.dye(day, 0, 10, 10, 10);
            int dyedOn = (72 + 5 * (day + 1)) / 24;
            Check.due("due on day " + day + ", dyed on day " + dyedOn, d.lateBy(day), Math.max(0, dyedOn - day));
        }
    }

    /** "What is due for an order is the weight of its lots that are passed times its price, less 100 for each day that it is late" */
    private static void lessAHundredADay() {
        for (int days = 0; days < 4; days++) {
            DyehouseLedger d = new DyehouseLedger();
            d.addRecipe(10, 10, 10);
            d.addVat(300);
            d.addOrder(2, 0, 4, 0, 7);
            d.addLot(0, 100);
            d.addLot(0, 50);
            d.addLot(0, 200);
            cleanTimes(d, 0, 8 * days);
            for (int lot = 0; lot < 3; lot++) {
                d.dye(lot, 0, 10, 10, lot == 2 ? 20 : 10);
                d.judge(lot);
            }
            Check.due("due, late by " + days, d.due(0), 1050 - 100 * days);
            Check.due("dues, late by " + days, d.dues(2), 1050L - 100 * days);
        }
    }

    /** "but not less than 0" */
    private static void notLessThanNothing() {
        int[][] due = {{99, 0}, {100, 0}, {101, 1}};
        for (int[] row : due) {
            DyehouseLedger d = house(4);
            d.addLot(0, row[0]);
            cleanTimes(d, 0, 8);
            d.dye(0, 0, 10, 10, 10);
            Check.due("none is passed, late by a day", d.due(0), 0);
            d.judge(0);
            Check.due(row[0] + " kilograms, late by a day", d.due(0), row[1]);
            passed(d, 1, 1, 10, 10, 10);
            Check.due("another order has what it had", d.due(1), 10);
        }
        DyehouseLedger sum = house(4);
        sum.addOrder(0, 0, 4, 99, 3);
        passed(sum, 4, 1, 10, 10, 10);
        cleanTimes(sum, 0, 40);
        passed(sum, 0, 0, 10, 10, 10);
        Check.due("far below 0", sum.due(0), 0);
        Check.due("and takes nothing from the customer's other order", sum.dues(0), 30L);
    }

    /** The greatest amount that the bounds allow: 24 lots of 200 kilograms at 99. */
    private static void theGreatestDue() {
        DyehouseLedger d = new DyehouseLedger();
        d.addRecipe(0, 0, 0);
        d.addVat(200);
        d.addOrder(3, 0, 0, 99, 99);
        for (int lot = 0; lot < 24; lot++) {
            d.addLot(0, 200);
            d.dye(lot, 0, 0, 0, 0);
            d.judge(lot);
        }
        Check.due("due", d.due(0), 475200);
        Check.due("dues", d.dues(3), 475200L);
    }
}
