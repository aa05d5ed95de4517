import java.util.NoSuchElementException;

public final class DyehouseLedger {
    private static final int MOST_RECIPES = 8;
    private static final int MOST_ORDERS = 6;
    private static final int MOST_LOTS = 24;
    private static final int MOST_VATS = 4;
    private static final int MOST_PLANNED = 6;
    private static final int CUSTOMERS = 4;
    private static final int DYES = 3;
    private static final int MOST_IN_SHADE = 20;
    private static final int MOST_GRAMS_IN_RECIPE = 5000;
    private static final int MOST_GRAMS_SUPPLIED = 99999;
    private static final int MOST_IN_STOCK = 9999999;
    private static final int CLEANING_HOURS = 3;
    private static final int MORE_HOURS_THAN_ANY_ORDER = 1000000;
    private static final int NONE = -1;

    private static final char WAITS = 'w';
    private static final char DYED = 'd';
    private static final char PASSED = 'p';
    private static final char REFUSED = 'x';
    private static final char TOO_FAR_OFF = 'f';
    private static final char APART = 'a';
    private static final char TOO_HEAVY = 'h';
    private static final char SHADE_TOO_DARK = 's';
    private static final char BARRED = 'b';
    private static final char TOO_FEW_GRAMS = 'g';
    private static final char CAN_BE_DYED = '-';

    private final Recipe[] allRecipes;
    private final Order[] allOrders;
    private final Lot[] allLots;
    private final Vat[] allVats;
    private final int[] gramsInStock;
    private final long[] gramsUsed;
    private final Plan planAtHand;
    private int recipeCount;
    private int orderCount;
    private int lotCount;
    private int vatCount;

    public DyehouseLedger() {
        allRecipes = new Recipe[MOST_RECIPES];
        allOrders = new Order[MOST_ORDERS];
        allLots = new Lot[MOST_LOTS];
        allVats = new Vat[MOST_VATS];
        gramsInStock = new int[DYES];
        gramsUsed = new long[DYES];
        planAtHand = new Plan();
    }

    public int addRecipe(int light, int red, int blue) throws IllegalArgumentException, IllegalStateException {
        checkShade(light, red, blue);
        if (recipeCount < 0 || recipeCount >= allRecipes.length) {
            throw new IllegalStateException();
        }
        allRecipes[recipeCount] = new Recipe(new Shade(light, red, blue));
        return recipeCount++;
    }

    public int setDye(int recipe, int dye, int grams) throws NoSuchElementException, IllegalArgumentException {
        Recipe changed = recipeNumbered(recipe);
        checkDye(dye);
        checkRange(grams, 0, MOST_GRAMS_IN_RECIPE);
        int before = changed.grams[dye];
        changed.grams[dye] = grams;
        return before;
    }

    public int supply(int dye, int grams) throws IllegalArgumentException, IllegalStateException {
        checkDye(dye);
        checkRange(grams, 1, MOST_GRAMS_SUPPLIED);
        if (gramsInStock[dye] + grams > MOST_IN_STOCK) {
            throw new IllegalStateException();
        }
        gramsInStock[dye] += grams;
        return gramsInStock[dye];
    }

    public int stock(int dye) throws IllegalArgumentException {
        checkDye(dye);
        return gramsInStock[dye];
    }

    public int addOrder(int customer, int recipe, int bound, int day, int price) throws NoSuchElementException, IllegalArgumentException, IllegalStateException {
        Recipe ordered = recipeNumbered(recipe);
        checkCustomer(customer);
        checkRange(bound, 0, 30);
        checkRange(day, 0, 99);
        checkRange(price, 0, 99);
        if (orderCount < 0 || orderCount >= allOrders.length) {
            throw new IllegalStateException();
        }
        allOrders[orderCount] = new Order(customer, ordered, bound, day, price);
        return orderCount++;
    }

    public int addLot(int order, int weight) throws NoSuchElementException, IllegalArgumentException, IllegalStateException {
        Order itsOrder = orderNumbered(order);
        checkRange(weight, 1, 200);
        if (lotCount < 0 || lotCount >= allLots.length) {
            throw new IllegalStateException();
        }
        allLots[lotCount] = new Lot(lotCount, itsOrder, weight);
        return lotCount++;
    }

    public int addVat(int weight) throws IllegalArgumentException, IllegalStateException {
        checkRange(weight, 10, 300);
        if (vatCount < 0 || vatCount >= allVats.length) {
            throw new IllegalStateException();
        }
        allVats[vatCount] = new Vat(vatCount, weight);
        return vatCount++;
    }

    public int needs(int lot, int dye) throws NoSuchElementException, IllegalArgumentException {
        Lot asked = lotNumbered(lot);
        checkDye(dye);
        return asked.gramsNeeded(dye);
    }

    public int hoursFor(int lot) throws NoSuchElementException {
        return lotNumbered(lot).dyeingHours();
    }

    public char reason(int lot, int vat) throws NoSuchElementException {
        Lot asked = lotNumbered(lot);
        return reasonAgainst(asked, vatNumbered(vat));
    }

    public int dye(int lot, int vat, int light, int red, int blue) throws NoSuchElementException, IllegalArgumentException, UnsupportedOperationException {
        Lot dyed = lotNumbered(lot);
        Vat used = vatNumbered(vat);
        checkShade(light, red, blue);
        if (reasonAgainst(dyed, used) != CAN_BE_DYED) {
            throw new UnsupportedOperationException();
        }
        takeDyesFor(dyed);
        used.light = light;
        used.clock += dyed.dyeingHours();
        dyed.shade.set(light, red, blue);
        dyed.state = DYED;
        dyed.vat = used;
        dyed.clockThen = used.clock;
        dyed.cleaningsThen = used.cleanings;
        dyed.plannedFor = null;
        return used.clock;
    }

    public int clean(int vat) throws NoSuchElementException {
        Vat cleaned = vatNumbered(vat);
        cleaned.light = NONE;
        cleaned.onlyCustomer = NONE;
        cleaned.cleanings++;
        cleaned.clock += CLEANING_HOURS;
        return cleaned.clock;
    }

    public char verdict(int lot) throws NoSuchElementException, IllegalStateException {
        return verdictOn(dyedLotNumbered(lot));
    }

    public boolean judge(int lot) throws NoSuchElementException, IllegalStateException {
        Lot judged = dyedLotNumbered(lot);
        if (verdictOn(judged) != PASSED) {
            judged.state = REFUSED;
            return false;
        }
        judged.state = PASSED;
        barVatOf(judged);
        return true;
    }

    public int again(int lot) throws NoSuchElementException, IllegalStateException {
        Lot refused = lotNumbered(lot);
        if (refused.state != REFUSED) {
            throw new IllegalStateException();
        }
        refused.state = WAITS;
        refused.vat = null;
        return lotsInState(WAITS);
    }

    public int plan(int lot, int vat) throws NoSuchElementException, IllegalStateException, UnsupportedOperationException {
        Lot added = lotNumbered(lot);
        Vat itsVat = vatNumbered(vat);
        int already = plannedLots(itsVat);
        if (added.state != WAITS || added.plannedFor != null || already >= MOST_PLANNED) {
            throw new IllegalStateException();
        }
        if (added.weight > itsVat.mostWeight) {
            throw new UnsupportedOperationException();
        }
        added.plannedFor = itsVat;
        return already + 1;
    }

    public int unplan(int lot) throws NoSuchElementException, IllegalStateException {
        Lot removed = lotNumbered(lot);
        Vat itsVat = removed.plannedFor;
        if (itsVat == null) {
            throw new IllegalStateException();
        }
        removed.plannedFor = null;
        return itsVat.number;
    }

    public int planned(int vat) throws NoSuchElementException {
        return plannedLots(vatNumbered(vat));
    }

    public int plannedAt(int vat, int place) throws NoSuchElementException, IndexOutOfBoundsException {
        Vat asked = vatNumbered(vat);
        int before = 0;
        for (Lot lot : allLots) {
            if (lot != null && lot.plannedFor == asked) {
                if (before == place) {
                    return lot.number;
                }
                before++;
            }
        }
        throw new IndexOutOfBoundsException();
    }

    public int leastHours(int vat) throws NoSuchElementException {
        fillPlan(vatNumbered(vat));
        return planAtHand.dyeingHours() + CLEANING_HOURS * planAtHand.fewestCleanings();
    }

    public int leastByAll(int vat) throws NoSuchElementException {
        fillPlan(vatNumbered(vat));
        return planAtHand.leastOfAllOrders();
    }

    public int firstOf(int vat) throws NoSuchElementException, IllegalStateException {
        Vat asked = vatNumbered(vat);
        if (plannedLots(asked) == 0) {
            throw new IllegalStateException();
        }
        fillPlan(asked);
        return planAtHand.firstOfBestOrder();
    }

    public int recipes() {
        return recipeCount;
    }

    public int lots() {
        return lotCount;
    }

    public char stateOf(int lot) throws NoSuchElementException {
        return lotNumbered(lot).state;
    }

    public int shadeOf(int lot, int part) throws NoSuchElementException, IllegalStateException, IndexOutOfBoundsException {
        Shade shade = shadedLotNumbered(lot).shade;
        switch (part) {
            case 0:
                return shade.light;
            case 1:
                return shade.red;
            case 2:
                return shade.blue;
            default:
                throw new IndexOutOfBoundsException();
        }
    }

    public int vatOf(int lot) throws NoSuchElementException, IllegalStateException {
        Vat itsVat = lotNumbered(lot).vat;
        if (itsVat == null) {
            throw new IllegalStateException();
        }
        return itsVat.number;
    }

    public int offBy(int lot) throws NoSuchElementException, IllegalStateException {
        return shadedLotNumbered(lot).distanceFromRecipe();
    }

    public int distance(int lot, int other) throws NoSuchElementException, IllegalStateException {
        Lot one = lotNumbered(lot);
        Lot two = lotNumbered(other);
        if (one.state == WAITS || two.state == WAITS) {
            throw new IllegalStateException();
        }
        return one.shade.distanceTo(two.shade);
    }

    public int nearest(int lot) throws NoSuchElementException, IllegalStateException, UnsupportedOperationException {
        Lot asked = shadedLotNumbered(lot);
        int found = NONE;
        int least = 0;
        for (Lot other : allLots) {
            if (other != null && other != asked && other.state == PASSED) {
                int distance = asked.shade.distanceTo(other.shade);
                if (found == NONE || distance < least) {
                    found = other.number;
                    least = distance;
                }
            }
        }
        if (found == NONE) {
            throw new UnsupportedOperationException();
        }
        return found;
    }

    public int byLight(int place) throws IndexOutOfBoundsException {
        for (Lot lot : allLots) {
            if (lot != null && lot.state != WAITS && placeByLight(lot) == place) {
                return lot.number;
            }
        }
        throw new IndexOutOfBoundsException();
    }

    public int clock(int vat) throws NoSuchElementException {
        return vatNumbered(vat).clock;
    }

    public int cleanings(int vat) throws NoSuchElementException {
        return vatNumbered(vat).cleanings;
    }

    public int lightIn(int vat) throws NoSuchElementException, IllegalStateException {
        int light = vatNumbered(vat).light;
        if (light == NONE) {
            throw new IllegalStateException();
        }
        return light;
    }

    public int customerOf(int vat) throws NoSuchElementException, IllegalStateException {
        int customer = vatNumbered(vat).onlyCustomer;
        if (customer == NONE) {
            throw new IllegalStateException();
        }
        return customer;
    }

    public int lotsOf(int order) throws NoSuchElementException {
        Order asked = orderNumbered(order);
        int count = 0;
        for (Lot lot : allLots) {
            if (lot != null && lot.order == asked) {
                count++;
            }
        }
        return count;
    }

    public int passedOf(int order) throws NoSuchElementException {
        Order asked = orderNumbered(order);
        int count = 0;
        for (Lot lot : allLots) {
            if (lot != null && lot.isPassedOf(asked)) {
                count++;
            }
        }
        return count;
    }

    public int spread(int order) throws NoSuchElementException {
        Order asked = orderNumbered(order);
        int greatest = 0;
        for (Lot lot : allLots) {
            if (lot != null && lot.isPassedOf(asked)) {
                greatest = Math.max(greatest, greatestDistanceFromPassed(lot));
            }
        }
        return greatest;
    }

    public int lateBy(int order) throws NoSuchElementException {
        return daysLate(orderNumbered(order));
    }

    public int due(int order) throws NoSuchElementException {
        return amountDue(orderNumbered(order));
    }

    public long dues(int customer) throws IllegalArgumentException {
        checkCustomer(customer);
        long sum = 0;
        for (Order order : allOrders) {
            if (order != null && order.customer == customer) {
                sum += amountDue(order);
            }
        }
        return sum;
    }

    public long used(int dye) throws IllegalArgumentException {
        checkDye(dye);
        return gramsUsed[dye];
    }

    public float passedShare() throws ArithmeticException {
        int passed = lotsInState(PASSED);
        int judged = passed + lotsInState(REFUSED);
        if (judged == 0) {
            throw new ArithmeticException();
        }
        return (float) passed / (float) judged;
    }

    public double meanOff() throws ArithmeticException {
        int sum = 0;
        int count = 0;
        for (Lot lot : allLots) {
            if (lot != null && lot.state != WAITS) {
                sum += lot.distanceFromRecipe();
                count++;
            }
        }
        if (count == 0) {
            throw new ArithmeticException();
        }
        return (double) sum / (double) count;
    }

    private static void checkRange(int number, int least, int most) {
        if (number < least || number > most) {
            throw new IllegalArgumentException();
        }
    }

    private static void checkShade(int light, int red, int blue) {
        checkRange(light, 0, MOST_IN_SHADE);
        checkRange(red, 0, MOST_IN_SHADE);
        checkRange(blue, 0, MOST_IN_SHADE);
    }

    private static void checkDye(int dye) {
        checkRange(dye, 0, DYES - 1);
    }

    private static void checkCustomer(int customer) {
        checkRange(customer, 0, CUSTOMERS - 1);
    }

    private Recipe recipeNumbered(int number) {
        Recipe found = number >= 0 && number < allRecipes.length ? allRecipes[number] : null;
        if (found == null) {
            throw new NoSuchElementException();
        }
        return found;
    }

    private Order orderNumbered(int number) {
        Order found = number >= 0 && number < allOrders.length ? allOrders[number] : null;
        if (found == null) {
            throw new NoSuchElementException();
        }
        return found;
    }

    private Lot lotNumbered(int number) {
        Lot found = number >= 0 && number < allLots.length ? allLots[number] : null;
        if (found == null) {
            throw new NoSuchElementException();
        }
        return found;
    }

    private Vat vatNumbered(int number) {
        Vat found = number >= 0 && number < allVats.length ? allVats[number] : null;
        if (found == null) {
            throw new NoSuchElementException();
        }
        return found;
    }

    private Lot dyedLotNumbered(int number) {
        Lot lot = lotNumbered(number);
        if (lot.state != DYED) {
            throw new IllegalStateException();
        }
        return lot;
    }

    private Lot shadedLotNumbered(int number) {
        Lot lot = lotNumbered(number);
        if (lot.state == WAITS) {
            throw new IllegalStateException();
        }
        return lot;
    }

    private char reasonAgainst(Lot lot, Vat vat) {
        if (lot.state != WAITS) {
            return WAITS;
        }
        if (lot.weight > vat.mostWeight) {
            return TOO_HEAVY;
        }
        if (isTooDark(vat.light, lot.order.recipe.shade.light)) {
            return SHADE_TOO_DARK;
        }
        if (isBarred(vat.onlyCustomer, lot.order.customer)) {
            return BARRED;
        }
        return isStocked(lot) ? CAN_BE_DYED : TOO_FEW_GRAMS;
    }

    private static boolean isTooDark(int lightInVat, int lightWanted) {
        return lightInVat != NONE && lightInVat < lightWanted;
    }

    private static boolean isBarred(int onlyCustomer, int customer) {
        return onlyCustomer != NONE && onlyCustomer != customer;
    }

    private boolean isStocked(Lot lot) {
        for (int dye = 0; dye < DYES; dye++) {
            if (gramsInStock[dye] < lot.gramsNeeded(dye)) {
                return false;
            }
        }
        return true;
    }

    private void takeDyesFor(Lot lot) {
        for (int dye = 0; dye < DYES; dye++) {
            int grams = lot.gramsNeeded(dye);
            gramsInStock[dye] -= grams;
            gramsUsed[dye] += grams;
        }
    }

    private char verdictOn(Lot lot) {
        if (lot.distanceFromRecipe() > lot.order.bound) {
            return TOO_FAR_OFF;
        }
        return greatestDistanceFromPassed(lot) > lot.order.bound ? APART : PASSED;
    }

    private int greatestDistanceFromPassed(Lot lot) {
        int greatest = 0;
        for (Lot other : allLots) {
            if (other != null && other.isPassedOf(lot.order)) {
                greatest = Math.max(greatest, lot.shade.distanceTo(other.shade));
            }
        }
        return greatest;
    }

    private static void barVatOf(Lot lot) {
        Vat vat = lot.vat;
        if (vat != null && vat.cleanings == lot.cleaningsThen) {
            vat.onlyCustomer = lot.order.customer;
        }
    }

    private int lotsInState(char state) {
        int count = 0;
        for (Lot lot : allLots) {
            if (lot != null && lot.state == state) {
                count++;
            }
        }
        return count;
    }

    private int plannedLots(Vat vat) {
        int count = 0;
        for (Lot lot : allLots) {
            if (lot != null && lot.plannedFor == vat) {
                count++;
            }
        }
        return count;
    }

    private void fillPlan(Vat vat) {
        planAtHand.begin(vat);
        for (Lot lot : allLots) {
            if (lot != null && lot.plannedFor == vat) {
                planAtHand.add(lot);
            }
        }
    }

    private int placeByLight(Lot lot) {
        int before = 0;
        for (Lot other : allLots) {
            if (other != null && other.state != WAITS && other.comesBeforeByLight(lot)) {
                before++;
            }
        }
        return before;
    }

    private int daysLate(Order order) {
        int lastClock = 0;
        for (Lot lot : allLots) {
            if (lot != null && lot.order == order && lot.state != WAITS) {
                lastClock = Math.max(lastClock, lot.clockThen);
            }
        }
        return Math.max(0, lastClock / 24 - order.day);
    }

    private int amountDue(Order order) {
        int weight = 0;
        for (Lot lot : allLots) {
            if (lot != null && lot.isPassedOf(order)) {
                weight += lot.weight;
            }
        }
        return Math.max(0, weight * order.price - 100 * daysLate(order));
    }

    private static final class Shade {
        int light;
        int red;
        int blue;

        Shade(int light, int red, int blue) {
            this.light = light;
            this.red = red;
            this.blue = blue;
        }

        void set(int newLight, int newRed, int newBlue) {
            light = newLight;
            red = newRed;
            blue = newBlue;
        }

        int distanceTo(Shade other) {
            return Math.abs(light - other.light) + Math.abs(red - other.red) + Math.abs(blue - other.blue);
        }
    }

    private static final class Recipe {
        final Shade shade;
        final int[] grams;

        Recipe(Shade shade) {
            this.shade = shade;
            grams = new int[DYES];
        }
    }

    private static final class Order {
        final int customer;
        final Recipe recipe;
        final int bound;
        final int day;
        final int price;

        Order(int customer, Recipe recipe, int bound, int day, int price) {
            this.customer = customer;
            this.recipe = recipe;
            this.bound = bound;
            this.day = day;
            this.price = price;
        }
    }

    private static final class Vat {
        final int number;
        final int mostWeight;
        // NONE without a shade; of a vat's shade nothing but its light is ever asked.
        int light;
        // NONE when the vat is not barred.
        int onlyCustomer;
        int clock;
        int cleanings;

        Vat(int number, int mostWeight) {
            this.number = number;
            this.mostWeight = mostWeight;
            light = NONE;
            onlyCustomer = NONE;
        }
    }

    private static final class Lot {
        final int number;
        final Order order;
        final int weight;
        // Without meaning while the lot waits; kept so that it is never null.
        final Shade shade;
        char state;
        // Null while the lot waits.
        Vat vat;
        int clockThen;
        // Tells at judging whether the vat was cleaned since the lot was dyed.
        int cleaningsThen;
        // Null when the lot is in no plan.
        Vat plannedFor;

        Lot(int number, Order order, int weight) {
            this.number = number;
            this.order = order;
            this.weight = weight;
            shade = new Shade(0, 0, 0);
            state = WAITS;
        }

        int dyeingHours() {
            return 4 + (weight + 49) / 50;
        }

        int gramsNeeded(int dye) {
            return (order.recipe.grams[dye] * weight + 99) / 100;
        }

        int distanceFromRecipe() {
            return shade.distanceTo(order.recipe.shade);
        }

        boolean isPassedOf(Order asked) {
            return order == asked && state == PASSED;
        }

        boolean comesBeforeByLight(Lot other) {
            if (shade.light != other.shade.light) {
                return shade.light > other.shade.light;
            }
            if (shade.red != other.shade.red) {
                return shade.red < other.shade.red;
            }
            if (shade.blue != other.shade.blue) {
                return shade.blue < other.shade.blue;
            }
            return number < other.number;
        }
    }

    // The lots planned for one vat, by rising numbers, copied into numbers that are
    // used again for every call, so that trying the orders makes no objects.
    private static final class Plan {
        final int[] numbers;
        final int[] lights;
        final int[] customers;
        final int[] hours;
        int size;
        int lightAtFirst;
        int onlyCustomerAtFirst;

        Plan() {
            numbers = new int[MOST_PLANNED];
            lights = new int[MOST_PLANNED];
            customers = new int[MOST_PLANNED];
            hours = new int[MOST_PLANNED];
        }

        void begin(Vat vat) {
            size = 0;
            lightAtFirst = vat.light;
            onlyCustomerAtFirst = vat.onlyCustomer;
        }

        void add(Lot lot) {
            if (size >= 0 && size < MOST_PLANNED) {
                numbers[size] = lot.number;
                lights[size] = lot.order.recipe.shade.light;
                customers[size] = lot.order.customer;
                hours[size] = lot.dyeingHours();
                size++;
            }
        }

        int dyeingHours() {
            int sum = 0;
            for (int i = 0; i < size && i < MOST_PLANNED; i++) {
                sum += hours[i];
            }
            return sum;
        }

        // One more than can be needed: a vat is cleaned at most once ahead of each lot.
        int fewestCleanings() {
            return fewestFrom(this, 0, 0, lightAtFirst, onlyCustomerAtFirst, 0, size + 1);
        }

        int firstOfBestOrder() {
            int fewest = fewestCleanings();
            int first = 0;
            while (first < size - 1 && first < MOST_PLANNED - 1 && fewestBeginningWith(first, fewest + 1) > fewest) {
                first++;
            }
            return numbers[first];
        }

        private int fewestBeginningWith(int first, int enough) {
            boolean cleaned = mustBeCleaned(first, lightAtFirst, onlyCustomerAtFirst);
            int onlyCustomer = cleaned ? NONE : onlyCustomerAtFirst;
            return fewestFrom(this, 1, 1 << first, lights[first], onlyCustomer, cleaned ? 1 : 0, enough);
        }

        int leastOfAllOrders() {
            return leastFrom(this, 0, 0, lightAtFirst, onlyCustomerAtFirst, 0);
        }

        private boolean mustBeCleaned(int next, int light, int onlyCustomer) {
            return isTooDark(light, lights[next]) || isBarred(onlyCustomer, customers[next]);
        }

        // The hours of dyeing are the same in every order, so the search counts cleanings alone
        // and gives up an order as soon as it needs no fewer of them than the best one so far.
        private static int fewestFrom(Plan plan, int placed, int used, int light, int onlyCustomer, int cleanings, int best) {
            if (cleanings >= best) {
                return best;
            }
            if (placed >= plan.size || placed >= MOST_PLANNED) {
                return cleanings;
            }
            int fewest = best;
            for (int i = 0; i < plan.size && i < MOST_PLANNED; i++) {
                if ((used & (1 << i)) == 0) {
                    boolean cleaned = plan.mustBeCleaned(i, light, onlyCustomer);
                    fewest = fewestFrom(plan, placed + 1, used | (1 << i), plan.lights[i],
                            cleaned ? NONE : onlyCustomer, cleaned ? cleanings + 1 : cleanings, fewest);
                }
            }
            return fewest;
        }

        private static int leastFrom(Plan plan, int placed, int used, int light, int onlyCustomer, int hoursSoFar) {
            if (placed >= plan.size || placed >= MOST_PLANNED) {
                return hoursSoFar;
            }
            int least = MORE_HOURS_THAN_ANY_ORDER;
            for (int i = 0; i < plan.size && i < MOST_PLANNED; i++) {
                if ((used & (1 << i)) == 0) {
                    boolean cleaned = plan.mustBeCleaned(i, light, onlyCustomer);
                    int hoursThen = hoursSoFar + plan.hours[i] + (cleaned ? CLEANING_HOURS : 0);
                    least = Math.min(least, leastFrom(plan, placed + 1, used | (1 << i), plan.lights[i],
                            cleaned ? NONE : onlyCustomer, hoursThen));
                }
            }
            return least;
        }
    }
}
