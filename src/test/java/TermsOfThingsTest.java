import java.util.NoSuchElementException;

/**
 * The terms "Shades", "Recipes", "Orders and lots" and "Vats", sentence by sentence: each sentence that names a bound
 * stands above the test that holds the class to it, on both sides of the bound.
 */
public final class TermsOfThingsTest {
    public static void main(String[] args) {
        numbersOfAShade();
        distanceOfTwoShades();
        eightRecipes();
        shadeOfARecipe();
        gramsOfARecipe();
        gramsAtFirst();
        needsRoundedUp();
        stockAtFirst();
        sixOrders();
        customers();
        boundsOfOrders();
        daysOfOrders();
        pricesOfOrders();
        twentyFourLots();
        weightsOfLots();
        statesOfLots();
        shadesOfLotsThatDoNotWait();
        fourVats();
        weightsOfVats();
        shadesOfVats();
        barsOfVats();
        hoursOfDyeing();
        hoursOfCleaning();
        clocksOfVats();
        Check.close();
    }

    /** A recipe 0 of the shade 10, 10, 10, an order 0 of customer 0 with the widest bound, and a vat 0 for all lots. */
    private static DyehouseLedger house() {
        DyehouseLedger d = new DyehouseLedger();
        d.addRecipe(10, 10, 10);
        d.addOrder(0, 0, 30, 0, 1);
        d.addVat(300);
        return d;
    }

    private static int dyedLot(DyehouseLedger d, int light, int red, int blue) {
        int lot = d.addLot(0, 10);
        d.clean(0);
        d.dye(lot, 0, light, red, blue);
        return lot;
    }

    /** "A shade has three numbers from 0 to 20: how light it is, how red, and how blue." */
    private static void numbersOfAShade() {
        DyehouseLedger d = house();
        d.addLot(0, 10);
        for (int part = 0; part < 3; part++) {
            for (int wrong : new int[] {-1, 21, Integer.MIN_VALUE, Integer.MAX_VALUE}) {
                int light = part == 0 ? wrong : 10;
                int red = part == 1 ? wrong : 10;
                int blue = part == 2 ? wrong : 10;
                String what = "part " + part + " is " + wrong;
                Check.throwsOnly(IllegalArgumentException.class, "recipe, " + what, () -> d.addRecipe(light, red, blue));
                Check.throwsOnly(IllegalArgumentException.class, "dye, " + what, () -> d.dye(0, 0, light, red, blue));
            }
            for (int right : new int[] {0, 20}) {
                DyehouseLedger e = house();
                int[] shade = {10, 10, 10};
                shade[part] = right;
                Check.due("recipe, part " + part + " is " + right, e.addRecipe(shade[0], shade[1], shade[2]), 1);
                int lot = dyedLot(e, shade[0], shade[1], shade[2]);
                Check.due("dyed, part " + part + " is " + right, e.shadeOf(lot, part), right);
            }
        }
    }

    /** "Two shades are as far apart as the sum of the differences of their three numbers, without sign." */
    private static void distanceOfTwoShades() {
        DyehouseLedger d = house();
        int middle = dyedLot(d, 10, 10, 10);
        int[][] shades = {
            {10, 10, 10, 0}, {9, 10, 10, 1}, {11, 10, 10, 1}, {10, 9, 10, 1}, {10, 11, 10, 1}, {10, 10, 9, 1},
            {10, 10, 11, 1}, {5, 15, 10, 10}, {10, 5, 15, 10}, {15, 10, 5, 10}, {0, 0, 0, 30}, {20, 20, 20, 30},
        };
        for (int[] shade : shades) {
            int lot = dyedLot(d, shade[0], shade[1], shade[2]);
            Check.due("distance of lot " + lot, d.distance(middle, lot), shade[3]);
            Check.due("distance back of lot " + lot, d.distance(lot, middle), shade[3]);
            Check.due("offBy of lot " + lot, d.offBy(lot), shade[3]);
        }
        Check.due("the farthest shades", d.distance(11, 12), 60);
    }

    /** "At most 8 recipes have numbers from 0." */
    private static void eightRecipes() {
        DyehouseLedger d = new DyehouseLedger();
        Check.throwsOnly(NoSuchElementException.class, "recipe 0 of none", () -> d.setDye(0, 0, 0));
        for (int i = 0; i < 8; i++) {
            int next = i;
            Check.throwsOnly(NoSuchElementException.class, "recipe " + i + " before it is added", () -> d.setDye(next, 0, 0));
            Check.due("recipe " + i, d.addRecipe(0, 0, 0), i);
            Check.due("dye of recipe " + i, d.setDye(i, 0, i), 0);
        }
        Check.throwsOnly(IllegalStateException.class, "a ninth recipe", () -> d.addRecipe(0, 0, 0));
        Check.throwsOnly(NoSuchElementException.class, "recipe 8", () -> d.setDye(8, 0, 0));
        Check.throwsOnly(NoSuchElementException.class, "recipe -1", () -> d.setDye(-1, 0, 0));
        Check.due("eight recipes are left", d.recipes(), 8);
    }

    /** "A recipe has a shade, which it is meant to give": each of its three numbers is kept as its own. */
    private static void shadeOfARecipe() {
        DyehouseLedger d = new DyehouseLedger();
        d.addRecipe(3, 9, 18);
        d.addOrder(0, 0, 30, 0, 0);
        d.addVat(300);
        Check.due("the same shade", d.offBy(dyedLot(d, 3, 9, 18)), 0);
        Check.due("another light", d.offBy(dyedLot(d, 0, 9, 18)), 3);
        Check.due("another red", d.offBy(dyedLot(d, 3, 0, 18)), 9);
        Check.due("another blue", d.offBy(dyedLot(d, 3, 9, 0)), 18);
    }

    /** "grams of the dyes 0 to 2 for each 100 kilograms of cloth, from 0 to 5000 of each" */
    private static void gramsOfARecipe() {
        DyehouseLedger d = house();
        d.addLot(0, 100);
        for (int i = 0; i < 3; i++) {
            int dye = i;
            Check.due("5000 grams of dye " + dye, d.setDye(0, dye, 5000), 0);
            Check.throwsOnly(IllegalArgumentException.class, "5001 grams", () -> d.setDye(0, dye, 5001));
            Check.throwsOnly(IllegalArgumentException.class, "-1 gram", () -> d.setDye(0, dye, -1));
            Check.due("100 kilograms need them all", d.needs(0, dye), 5000);
            Check.due("0 grams of dye " + dye, d.setDye(0, dye, 0), 5000);
            Check.due("no need", d.needs(0, dye), 0);
        }
        Check.throwsOnly(IllegalArgumentException.class, "dye 3", () -> d.setDye(0, 3, 1));
        Check.throwsOnly(IllegalArgumentException.class, "dye -1", () -> d.setDye(0, -1, 1));
    }

    /** "0 at first", of the grams of a recipe. */
    private static void gramsAtFirst() {
        DyehouseLedger d = house();
        d.addLot(0, 200);
        d.addRecipe(1, 1, 1);
        for (int dye = 0; dye < 3; dye++) {
            Check.due("a new recipe needs no dye " + dye, d.needs(0, dye), 0);
            d.setDye(0, dye, 77);
            Check.due("before, of another recipe", d.setDye(1, dye, 5), 0);
        }
    }

    /** "its grams times the weight of the lot divided by 100, rounded up" */
    private static void needsRoundedUp() {
        int[][] due = {
            {0, 200, 0}, {1, 1, 1}, {1, 99, 1}, {1, 100, 1}, {1, 101, 2}, {1, 200, 2}, {99, 1, 1}, {100, 1, 1},
            {101, 1, 2}, {50, 2, 1}, {51, 2, 2}, {33, 101, 34}, {150, 50, 75}, {4999, 199, 9949}, {5000, 1, 50},
            {5000, 199, 9950}, {5000, 200, 10000},
        };
        for (int[] row : due) {
            DyehouseLedger d = house();
            d.addLot(0, row[1]);
            for (int dye = 0; dye < 3; dye++) {
                d.setDye(0, dye, row[0]);
                Check.due(row[0] + " grams for " + row[1] + " kilograms, dye " + dye, d.needs(0, dye), row[2]);
                d.setDye(0, dye, 0);
            }
        }
    }

    /** "There is a stock of grams of each dye, 0 at first." */
    private static void stockAtFirst() {
        DyehouseLedger d = new DyehouseLedger();
        for (int dye = 0; dye < 3; dye++) {
            Check.due("stock of dye " + dye, d.stock(dye), 0);
            Check.due("the first supply", d.supply(dye, 1 + dye), 1 + dye);
        }
        for (int dye = 0; dye < 3; dye++) {
            Check.due("a stock of its own, dye " + dye, d.stock(dye), 1 + dye);
        }
    }

    /** "At most 6 orders have numbers from 0." */
    private static void sixOrders() {
        DyehouseLedger d = new DyehouseLedger();
        d.addRecipe(10, 10, 10);
        for (int i = 0; i < 6; i++) {
            int next = i;
            Check.throwsOnly(NoSuchElementException.class, "order " + i + " before it is added", () -> d.addLot(next, 1));
            Check.due("order " + i, d.addOrder(0, 0, 0, 0, 0), i);
            Check.due("a lot of order " + i, d.addLot(i, 1), i);
        }
        Check.throwsOnly(IllegalStateException.class, "a seventh order", () -> d.addOrder(0, 0, 0, 0, 0));
        Check.throwsOnly(NoSuchElementException.class, "order 6", () -> d.lotsOf(6));
        Check.throwsOnly(NoSuchElementException.class, "order -1", () -> d.lotsOf(-1));
        Check.due("order 5 has its lot", d.lotsOf(5), 1);
    }

    /** "An order has a customer from 0 to 3" */
    private static void customers() {
        DyehouseLedger d = new DyehouseLedger();
        d.addRecipe(10, 10, 10);
        d.addVat(300);
        Check.throwsOnly(IllegalArgumentException.class, "customer -1", () -> d.addOrder(-1, 0, 0, 0, 0));
        Check.throwsOnly(IllegalArgumentException.class, "customer 4", () -> d.addOrder(4, 0, 0, 0, 0));
        for (int customer = 0; customer < 4; customer++) {
            Check.due("order of customer " + customer, d.addOrder(customer, 0, 0, 99, 1 + customer), customer);
            d.addLot(customer, 10);
            d.dye(customer, 0, 10, 10, 10);
            d.judge(customer);
            Check.due("customerOf " + customer, d.customerOf(0), customer);
            Check.due("dues of customer " + customer, d.dues(customer), 10L * (1 + customer));
            d.clean(0);
        }
    }

    /** "a bound from 0 to 30" */
    private static void boundsOfOrders() {
        DyehouseLedger d = house();
        Check.throwsOnly(IllegalArgumentException.class, "bound -1", () -> d.addOrder(0, 0, -1, 0, 0));
        Check.throwsOnly(IllegalArgumentException.class, "bound 31", () -> d.addOrder(0, 0, 31, 0, 0));
        Check.due("bound 0", d.addOrder(0, 0, 0, 0, 0), 1);
        Check.due("bound 30", d.addOrder(0, 0, 30, 0, 0), 2);
        for (int lot = 0; lot < 2; lot++) {
            d.addLot(1, 10);
            d.dye(lot, 0, 10, 10, 10 + lot);
            Check.due("bound 0, off by " + lot, d.judge(lot), lot == 0);
        }
        Check.due("bound 30, off by 30", d.verdict(dyedLot(d, 20, 0, 20)), 'p');
        d.addRecipe(9, 10, 10);
        d.addOrder(0, 1, 30, 0, 0);
        d.addLot(3, 10);
        d.clean(0);
        d.dye(3, 0, 20, 20, 20);
        Check.due("bound 30, off by 31", d.verdict(3), 'f');
    }

    /** "a day from 0 to 99 on which it is due" */
    private static void daysOfOrders() {
        DyehouseLedger d = house();
        Check.throwsOnly(IllegalArgumentException.class, "day -1", () -> d.addOrder(0, 0, 0, -1, 0));
        Check.throwsOnly(IllegalArgumentException.class, "day 100", () -> d.addOrder(0, 0, 0, 100, 0));
        Check.due("day 99", d.addOrder(0, 0, 0, 99, 0), 1);
        d.addLot(0, 1);
        d.addLot(1, 51);
        for (int times = 0; times < 400; times++) {
            d.clean(0);
        }
        d.dye(0, 0, 10, 10, 10);
        Check.due("1205 hours are day 50, due on day 0", d.lateBy(0), 50);
        d.dye(1, 0, 10, 10, 10);
        Check.due("and not late on day 99", d.lateBy(1), 0);
    }

    /** "a price of a kilogram from 0 to 99" */
    private static void pricesOfOrders() {
        DyehouseLedger d = house();
        Check.throwsOnly(IllegalArgumentException.class, "price -1", () -> d.addOrder(0, 0, 0, 0, -1));
        Check.throwsOnly(IllegalArgumentException.class, "price 100", () -> d.addOrder(0, 0, 0, 0, 100));
        int[] prices = {0, 99};
        for (int i = 0; i < 2; i++) {
            Check.due("price " + prices[i], d.addOrder(1 + i, 0, 0, 0, prices[i]), 1 + i);
            d.addLot(1 + i, 200);
            d.dye(i, 0, 10, 10, 10);
            d.judge(i);
            Check.due("due at price " + prices[i], d.due(1 + i), 200 * prices[i]);
            d.clean(0);
        }
    }

    /** "At most 24 lots have numbers from 0." */
    private static void twentyFourLots() {
        DyehouseLedger d = house();
        for (int i = 0; i < 24; i++) {
            int next = i;
            Check.throwsOnly(NoSuchElementException.class, "lot " + i + " before it is added", () -> d.hoursFor(next));
            Check.due("lot " + i, d.addLot(0, 1 + 8 * i), i);
        }
        Check.throwsOnly(IllegalStateException.class, "a 25th lot", () -> d.addLot(0, 1));
        Check.throwsOnly(NoSuchElementException.class, "lot 24", () -> d.hoursFor(24));
        Check.throwsOnly(NoSuchElementException.class, "lot -1", () -> d.hoursFor(-1));
        Check.due("lots of the order", d.lotsOf(0), 24);
        for (int lot = 0; lot < 24; lot++) {
            d.clean(0);
            d.dye(lot, 0, 10, 10, 10);
            Check.due("lot " + lot + " is passed", d.judge(lot), true);
        }
        Check.due("all are passed", d.passedOf(0), 24);
        Check.due("all have shades", d.byLight(23), 23);
    }

    /** "A lot has an order and a weight from 1 to 200 kilograms." */
    private static void weightsOfLots() {
        DyehouseLedger d = house();
        Check.throwsOnly(IllegalArgumentException.class, "weight 0", () -> d.addLot(0, 0));
        Check.throwsOnly(IllegalArgumentException.class, "weight 201", () -> d.addLot(0, 201));
        d.setDye(0, 0, 100);
        Check.due("weight 1", d.addLot(0, 1), 0);
        Check.due("weight 200", d.addLot(0, 200), 1);
        Check.due("the weight is 1", d.needs(0, 0), 1);
        Check.due("the weight is 200", d.needs(1, 0), 200);
    }

    /** "It waits, 'w', is dyed, 'd', passed, 'p', or refused, 'x'." */
    private static void statesOfLots() {
        DyehouseLedger d = house();
        d.addOrder(0, 0, 0, 0, 0);
        d.addLot(1, 1);
        Check.due("new", d.stateOf(0), 'w');
        d.dye(0, 0, 10, 10, 9);
        Check.due("dyed", d.stateOf(0), 'd');
        d.judge(0);
        Check.due("refused", d.stateOf(0), 'x');
        d.again(0);
        Check.due("again", d.stateOf(0), 'w');
        d.clean(0);
        d.dye(0, 0, 10, 10, 10);
        Check.due("dyed again", d.stateOf(0), 'd');
        d.judge(0);
        Check.due("passed", d.stateOf(0), 'p');
    }

    /** "A lot that does not wait has a shade, and a vat in which it was dyed last." */
    private static void shadesOfLotsThatDoNotWait() {
        DyehouseLedger d = house();
        d.addVat(300);
        d.addLot(0, 1);
        d.addOrder(0, 0, 0, 0, 0);
        d.addLot(1, 1);
        for (int lot = 0; lot < 2; lot++) {
            hasNoShade(d, lot);
            d.clean(lot);
            d.dye(lot, lot, 10, 10, 9);
            hasShade(d, lot, lot, 9);
            d.judge(lot);
            hasShade(d, lot, lot, 9);
        }
        Check.due("lot 0 is passed", d.stateOf(0), 'p');
        d.again(1);
        hasNoShade(d, 1);
        d.clean(0);
        d.dye(1, 0, 10, 10, 8);
        hasShade(d, 1, 0, 8);
    }

    private static void hasNoShade(DyehouseLedger d, int lot) {
        Check.throwsOnly(IllegalStateException.class, "shadeOf waiting lot " + lot, () -> d.shadeOf(lot, 0));
        Check.throwsOnly(IllegalStateException.class, "vatOf waiting lot " + lot, () -> d.vatOf(lot));
    }

    private static void hasShade(DyehouseLedger d, int lot, int vat, int blue) {
        Check.due("shadeOf lot " + lot + " that is " + d.stateOf(lot), d.shadeOf(lot, 2), blue);
        Check.due("vatOf lot " + lot + " that is " + d.stateOf(lot), d.vatOf(lot), vat);
    }

    /** "At most 4 vats have numbers from 0." */
    private static void fourVats() {
        DyehouseLedger d = new DyehouseLedger();
        for (int i = 0; i < 4; i++) {
            int next = i;
            Check.throwsOnly(NoSuchElementException.class, "vat " + i + " before it is added", () -> d.clock(next));
            Check.due("vat " + i, d.addVat(10), i);
            Check.due("clock of vat " + i, d.clock(i), 0);
        }
        Check.throwsOnly(IllegalStateException.class, "a fifth vat", () -> d.addVat(10));
        Check.throwsOnly(NoSuchElementException.class, "vat 4", () -> d.clock(4));
        Check.throwsOnly(NoSuchElementException.class, "vat -1", () -> d.clock(-1));
        Check.due("vat 3 can be cleaned", d.clean(3), 3);
    }

    /** "A vat takes lots up to a weight from 10 to 300 kilograms." */
    private static void weightsOfVats() {
        DyehouseLedger d = new DyehouseLedger();
        Check.throwsOnly(IllegalArgumentException.class, "weight 9", () -> d.addVat(9));
        Check.throwsOnly(IllegalArgumentException.class, "weight 301", () -> d.addVat(301));
        d.addRecipe(10, 10, 10);
        d.addOrder(0, 0, 0, 0, 0);
        int[][] due = {{10, 10, '-'}, {10, 11, 'h'}, {300, 200, '-'}, {199, 200, 'h'}};
        for (int i = 0; i < 4; i++) {
            Check.due("weight " + due[i][0], d.addVat(due[i][0]), i);
            d.addLot(0, due[i][1]);
            String what = due[i][1] + " kilograms in a vat for " + due[i][0];
            Check.due(what, d.reason(i, i), (char) due[i][2]);
            int lot = i;
            Check.due("plan " + what, Check.outcome(() -> d.plan(lot, lot)),
                    due[i][2] == '-' ? "1" : "throws.UnsupportedOperationException");
        }
    }

    /** "It has the shade of the last lot that was dyed in it; it has no shade at first, and when it has been cleaned." */
    private static void shadesOfVats() {
        DyehouseLedger d = house();
        d.addVat(300);
        Check.throwsOnly(IllegalStateException.class, "no shade at first", () -> d.lightIn(0));
        d.addOrder(0, 0, 0, 0, 0);
        for (int lot = 0; lot < 3; lot++) {
            d.addLot(1, 10);
        }
        d.dye(0, 0, 20, 10, 10);
        Check.due("the first lot's", d.lightIn(0), 20);
        d.dye(1, 0, 0, 10, 10);
        Check.due("the last lot's, the least light", d.lightIn(0), 0);
        d.judge(1);
        d.again(1);
        Check.due("though that lot waits again", d.lightIn(0), 0);
        Check.throwsOnly(IllegalStateException.class, "another vat has none", () -> d.lightIn(1));
        d.dye(1, 1, 15, 10, 10);
        Check.due("though that lot is dyed again elsewhere", d.lightIn(0), 0);
        Check.due("where it was dyed last", d.lightIn(1), 15);
        d.clean(0);
        Check.throwsOnly(IllegalStateException.class, "no shade once cleaned", () -> d.lightIn(0));
        d.clean(0);
        Check.throwsOnly(IllegalStateException.class, "none once cleaned twice", () -> d.lightIn(0));
        d.dye(2, 0, 9, 10, 10);
        Check.due("a shade again", d.lightIn(0), 9);
    }

    /** "It can be barred for all customers but one; it is not barred at first, and when it has been cleaned." */
    private static void barsOfVats() {
        DyehouseLedger d = house();
        for (int customer = 1; customer < 4; customer++) {
            d.addOrder(customer, 0, 30, 0, 0);
        }
        Check.throwsOnly(IllegalStateException.class, "not barred at first", () -> d.customerOf(0));
        d.addLot(2, 10);
        d.dye(0, 0, 10, 10, 10);
        for (int order = 0; order < 4; order++) {
            d.addLot(order, 10);
            Check.due("before it is barred, order " + order, d.reason(1 + order, 0), '-');
        }
        d.judge(0);
        for (int order = 0; order < 4; order++) {
            Check.due("barred for all but customer 2, order " + order, d.reason(1 + order, 0), order == 2 ? '-' : 'b');
        }
        d.clean(0);
        for (int order = 0; order < 4; order++) {
            Check.due("cleaned, order " + order, d.reason(1 + order, 0), '-');
        }
        Check.throwsOnly(IllegalStateException.class, "not barred when cleaned", () -> d.customerOf(0));
    }

    /** "Dyeing a lot takes 4 hours and 1 more for each 50 kilograms, begun ones included" */
    private static void hoursOfDyeing() {
        for (int least = 1; least <= 200; least += 20) {
            DyehouseLedger d = house();
            for (int weight = least; weight < least + 20; weight++) {
                int lot = d.addLot(0, weight);
                int hours = weight <= 50 ? 5 : weight <= 100 ? 6 : weight <= 150 ? 7 : 8;
                Check.due("hours for " + weight, d.hoursFor(lot), hours);
                int before = d.clock(0);
                Check.due("clock behind " + weight, d.dye(lot, 0, 10, 10, 10), before + hours);
            }
        }
    }

    /** "cleaning takes 3 hours" */
    private static void hoursOfCleaning() {
        DyehouseLedger d = house();
        for (int times = 1; times <= 200; times++) {
            Check.due("cleaned " + times + " times", d.clean(0), 3 * times);
        }
        Check.due("cleanings", d.cleanings(0), 200);
        Check.due("clock", d.clock(0), 600);
    }

    /** "A vat has a clock, which is the sum of the hours of all that was done in it." */
    private static void clocksOfVats() {
        DyehouseLedger d = house();
        d.addVat(300);
        d.addLot(0, 200);
        d.addLot(0, 50);
        Check.due("dyed", d.dye(0, 0, 10, 10, 10), 8);
        Check.due("cleaned", d.clean(0), 11);
        Check.due("dyed once more", d.dye(1, 0, 10, 10, 10), 16);
        d.judge(0);
        d.judge(1);
        Check.due("judging takes no time", d.clock(0), 16);
        Check.due("another vat", d.clock(1), 0);
        Check.due("clock of the other vat", d.clean(1), 3);
        Check.due("clock of the first one", d.clock(0), 16);
    }
}
