import java.lang.reflect.InvocationTargetException;
import java.lang.reflect.Method;
import java.util.Arrays;
import java.util.NoSuchElementException;

/**
 * "A method that throws an exception changes nothing. If several exceptions apply, the one that is listed first is
 * thrown." Each "Throws" line of each promise has its rows here: the numbers just beyond its bound, the same where a
 * line listed later applies too, and behind each refused call all that can be asked answers as if it had not come.
 */
public final class RefusedCallsTest {
    private static final Class<NoSuchElementException> NO_SUCH = NoSuchElementException.class;
    private static final Class<IllegalArgumentException> ARGUMENT = IllegalArgumentException.class;
    private static final Class<IllegalStateException> STATE = IllegalStateException.class;
    private static final Class<UnsupportedOperationException> UNSUPPORTED = UnsupportedOperationException.class;
    private static final Class<IndexOutOfBoundsException> INDEX = IndexOutOfBoundsException.class;
    private static final Class<ArithmeticException> ARITHMETIC = ArithmeticException.class;
    private static final int MIN = Integer.MIN_VALUE;
    private static final int MAX = Integer.MAX_VALUE;

    private interface Scene {
        DyehouseLedger made();
    }

    private final Scene scene;
    private final String[] untouched = new String[Snapshot.PARTS];

    private RefusedCallsTest(Scene scene) {
        this.scene = scene;
        for (int part = 0; part < Snapshot.PARTS; part++) {
            untouched[part] = Snapshot.part(scene.made(), part);
        }
    }

    public static void main(String[] args) {
        RefusedCallsTest fresh = new RefusedCallsTest(DyehouseLedger::new);
        RefusedCallsTest midway = new RefusedCallsTest(RefusedCallsTest::midway);
        RefusedCallsTest full = new RefusedCallsTest(RefusedCallsTest::full);
        theScenesAreWhatTheyAreMeantToBe();
        recipesAndStock(midway, full);
        ordersLotsAndVats(midway, full);
        askingOfLots(midway, full);
        dyeingAndCleaning(midway, full);
        judging(midway, full);
        plans(midway, full);
        shades(fresh, midway, full);
        askingOfVatsAndOrders(midway, full);
        sharesAndMeans(fresh, full);
        nothingIsInAFreshOne(fresh);
        Check.close();
    }

    /**
     * Lot 0 is passed, 1 refused, 2 dyed, 3 and 5 wait, 4 is planned for vat 0, and there is no lot 6. Vat 1 is barred
     * for customer 1, and too dark for lot 5; lot 3 is too heavy for vat 0, and a gram is missing for lot 4.
     */
    private static DyehouseLedger midway() {
        DyehouseLedger d = new DyehouseLedger();
        d.addRecipe(10, 5, 5);
        d.addRecipe(12, 5, 5);
        d.setDye(0, 0, 150);
        d.supply(0, 344);
        d.addOrder(0, 0, 4, 1, 10);
        d.addOrder(1, 0, 4, 0, 20);
        d.addOrder(0, 1, 30, 0, 5);
        int[][] lots = {{0, 50}, {0, 100}, {0, 20}, {1, 61}, {0, 60}, {2, 10}};
        for (int[] lot : lots) {
            d.addLot(lot[0], lot[1]);
        }
        d.addVat(60);
        d.addVat(300);
        d.clean(1);
        d.dye(0, 1, 10, 5, 5);
        d.judge(0);
        d.dye(1, 1, 10, 5, 10);
        d.judge(1);
        d.dye(2, 1, 10, 5, 4);
        d.plan(4, 0);
        return d;
    }

    /** Everything as many times as there can be, dye 1 up to its limit, lots 0 to 5 planned for vat 0; all lots wait. */
    private static DyehouseLedger full() {
        DyehouseLedger d = new DyehouseLedger();
        for (int recipe = 0; recipe < 8; recipe++) {
            d.addRecipe(recipe, 20 - recipe, 10);
        }
        for (int order = 0; order < 6; order++) {
            d.addOrder(order % 4, order, 5 * order, order, 10 * order);
        }
        for (int lot = 0; lot < 24; lot++) {
            d.addLot(lot % 6, 28 + lot);
        }
        d.addVat(50);
        for (int vat = 1; vat < 4; vat++) {
            d.addVat(10);
        }
        for (int times = 0; times < 100; times++) {
            d.supply(1, 99999);
        }
        d.supply(1, 99);
        for (int lot = 0; lot < 6; lot++) {
            d.plan(lot, 0);
        }
        return d;
    }

    private static void theScenesAreWhatTheyAreMeantToBe() {
        DyehouseLedger d = midway();
        StringBuilder states = new StringBuilder();
        for (int lot = 0; lot < 6; lot++) {
            states.append(d.stateOf(lot)).append(d.reason(lot, 0)).append(d.reason(lot, 1));
        }
        Check.due("states and reasons midway", states.toString(), "pwwxwwdwwwhbwggw-s");
        Check.due("planned midway", d.plannedAt(0, 0), 4);
        DyehouseLedger f = full();
        Check.due("stock of the full one", f.stock(1), 9999999);
        Check.due("planned in the full one", f.planned(0), 6);
    }

    /** Calls the method on a dyehouse of this scene, and then asks all that can be asked. */
    private void refuses(Class<? extends RuntimeException> due, String method, int... numbers) {
        for (int part = 0; part < Snapshot.PARTS; part++) {
            DyehouseLedger d = scene.made();
            String call = method + Arrays.toString(numbers);
            Check.throwsOnly(due, call, () -> called(d, method, numbers));
            Check.due("part " + part + " of the answers behind " + call, Snapshot.part(d, part), untouched[part]);
        }
    }

    /** The same for each of these numbers in this place. */
    private void refusesEach(Class<? extends RuntimeException> due, int[] wrong, int place, String method, int... numbers) {
        for (int number : wrong) {
            int[] changed = numbers.clone();
            changed[place] = number;
            refuses(due, method, changed);
        }
    }

    private static Object called(DyehouseLedger d, String name, int[] numbers) {
        Class<?>[] types = new Class<?>[numbers.length];
        Arrays.fill(types, int.class);
        Object[] boxed = new Object[numbers.length];
        for (int i = 0; i < numbers.length; i++) {
            boxed[i] = numbers[i];
        }
        try {
            Method method = DyehouseLedger.class.getMethod(name, types);
            return method.invoke(d, boxed);
        } catch (InvocationTargetException e) {
            throw (RuntimeException) e.getCause();
        } catch (ReflectiveOperationException e) {
            throw new AssertionError(e);
        }
    }

    private static int[] beyond(int most) {
        return new int[] {-1, most + 1, MIN, MAX};
    }

    /** Promises 2 to 5. */
    private static void recipesAndStock(RefusedCallsTest midway, RefusedCallsTest full) {
        for (int place = 0; place < 3; place++) {
            midway.refusesEach(ARGUMENT, beyond(20), place, "addRecipe", 0, 20, 0);
            full.refusesEach(ARGUMENT, beyond(20), place, "addRecipe", 0, 20, 0);
        }
        full.refuses(STATE, "addRecipe", 0, 0, 0);
        full.refuses(STATE, "addRecipe", 20, 20, 20);
        midway.refusesEach(NO_SUCH, beyond(1), 0, "setDye", 0, 2, 5000);
        midway.refusesEach(NO_SUCH, beyond(1), 0, "setDye", 0, 3, 5000);
        midway.refusesEach(NO_SUCH, beyond(1), 0, "setDye", 0, 2, 5001);
        full.refusesEach(NO_SUCH, beyond(7), 0, "setDye", 0, 0, 0);
        midway.refusesEach(ARGUMENT, beyond(2), 1, "setDye", 0, 0, 5000);
        midway.refusesEach(ARGUMENT, beyond(5000), 2, "setDye", 0, 0, 0);
        midway.refusesEach(ARGUMENT, beyond(5000), 2, "setDye", 1, 2, 0);
        midway.refusesEach(ARGUMENT, beyond(2), 0, "supply", 0, 1);
        midway.refusesEach(ARGUMENT, new int[] {0, -1, 100000, MIN, MAX}, 1, "supply", 0, 1);
        full.refusesEach(ARGUMENT, new int[] {0, -1, 100000, MIN, MAX}, 1, "supply", 1, 1);
        full.refusesEach(STATE, new int[] {1, 2, 99999}, 1, "supply", 1, 1);
        full.refusesEach(ARGUMENT, beyond(2), 0, "supply", 0, 99999);
        midway.refusesEach(ARGUMENT, beyond(2), 0, "stock", 0);
    }

    /** Promises 6 to 8. */
    private static void ordersLotsAndVats(RefusedCallsTest midway, RefusedCallsTest full) {
        int[] most = {3, 1, 30, 99, 99};
        for (int place = 0; place < 5; place++) {
            Class<? extends RuntimeException> due = place == 1 ? NO_SUCH : ARGUMENT;
            midway.refusesEach(due, beyond(most[place]), place, "addOrder", 3, 1, 30, 99, 99);
            full.refusesEach(due, beyond(place == 1 ? 7 : most[place]), place, "addOrder", 0, 0, 0, 0, 0);
            if (place != 1) {
                midway.refusesEach(NO_SUCH, beyond(most[place]), place, "addOrder", 0, 2, 0, 0, 0);
            }
        }
        full.refuses(STATE, "addOrder", 0, 0, 0, 0, 0);
        full.refuses(STATE, "addOrder", 3, 7, 30, 99, 99);
        midway.refusesEach(NO_SUCH, beyond(2), 0, "addLot", 0, 1);
        midway.refusesEach(NO_SUCH, beyond(2), 0, "addLot", 0, 0);
        full.refusesEach(NO_SUCH, beyond(5), 0, "addLot", 0, 201);
        midway.refusesEach(ARGUMENT, new int[] {0, -1, 201, MIN, MAX}, 1, "addLot", 0, 1);
        full.refusesEach(ARGUMENT, new int[] {0, -1, 201, MIN, MAX}, 1, "addLot", 0, 1);
        full.refuses(STATE, "addLot", 0, 1);
        full.refuses(STATE, "addLot", 5, 200);
        midway.refusesEach(ARGUMENT, new int[] {9, 301, 0, -1, MIN, MAX}, 0, "addVat", 10);
        full.refusesEach(ARGUMENT, new int[] {9, 301, 0, -1, MIN, MAX}, 0, "addVat", 10);
        full.refuses(STATE, "addVat", 10);
        full.refuses(STATE, "addVat", 300);
    }

    /** Promises 9 to 11, 26, 28 and 29. */
    private static void askingOfLots(RefusedCallsTest midway, RefusedCallsTest full) {
        String[] methods = {"hoursFor", "stateOf", "vatOf", "offBy"};
        for (String method : methods) {
            midway.refusesEach(NO_SUCH, beyond(5), 0, method, 0);
            full.refusesEach(NO_SUCH, beyond(23), 0, method, 0);
        }
        midway.refusesEach(NO_SUCH, beyond(5), 0, "needs", 0, 2);
        midway.refusesEach(NO_SUCH, beyond(5), 0, "needs", 0, 3);
        midway.refusesEach(ARGUMENT, beyond(2), 1, "needs", 5, 0);
        full.refusesEach(NO_SUCH, beyond(23), 0, "needs", 0, -1);
        midway.refusesEach(NO_SUCH, beyond(5), 0, "reason", 0, 0);
        midway.refusesEach(NO_SUCH, beyond(1), 1, "reason", 0, 0);
        midway.refusesEach(NO_SUCH, beyond(1), 1, "reason", 6, 0);
        full.refusesEach(NO_SUCH, beyond(3), 1, "reason", 23, 0);
        for (int waiting = 3; waiting <= 5; waiting++) {
            midway.refuses(STATE, "vatOf", waiting);
            midway.refuses(STATE, "offBy", waiting);
        }
    }

    /** Promises 12 and 13. */
    private static void dyeingAndCleaning(RefusedCallsTest midway, RefusedCallsTest full) {
        midway.refusesEach(NO_SUCH, beyond(5), 0, "dye", 5, 0, 12, 5, 5);
        midway.refusesEach(NO_SUCH, beyond(1), 1, "dye", 5, 0, 12, 5, 5);
        midway.refusesEach(NO_SUCH, beyond(5), 0, "dye", 5, 0, 21, 5, 5);
        midway.refusesEach(NO_SUCH, beyond(1), 1, "dye", 5, 0, 12, -1, 5);
        midway.refusesEach(NO_SUCH, beyond(1), 1, "dye", 0, 0, 12, 5, 5);
        full.refusesEach(NO_SUCH, beyond(23), 0, "dye", 5, 0, 12, 5, 5);
        for (int place = 2; place < 5; place++) {
            midway.refusesEach(ARGUMENT, beyond(20), place, "dye", 5, 0, 12, 5, 5);
            midway.refusesEach(ARGUMENT, beyond(20), place, "dye", 0, 0, 12, 5, 5);
            midway.refusesEach(ARGUMENT, beyond(20), place, "dye", 4, 0, 12, 5, 5);
        }
        int[][] cannotBeDyed = {{0, 0}, {1, 1}, {2, 1}, {3, 0}, {3, 1}, {4, 0}, {4, 1}, {5, 1}};
        for (int[] row : cannotBeDyed) {
            midway.refuses(UNSUPPORTED, "dye", row[0], row[1], 10, 5, 5);
        }
        midway.refusesEach(NO_SUCH, beyond(1), 0, "clean", 0);
        full.refusesEach(NO_SUCH, beyond(3), 0, "clean", 0);
    }

    /** Promises 14 to 16. */
    private static void judging(RefusedCallsTest midway, RefusedCallsTest full) {
        String[] methods = {"verdict", "judge", "again"};
        for (String method : methods) {
            midway.refusesEach(NO_SUCH, beyond(5), 0, method, 0);
            full.refusesEach(NO_SUCH, beyond(23), 0, method, 0);
            for (int lot = 0; lot < 6; lot++) {
                if (lot != (method.equals("again") ? 1 : 2)) {
                    midway.refuses(STATE, method, lot);
                }
            }
        }
    }

    /** Promises 17 to 23. */
    private static void plans(RefusedCallsTest midway, RefusedCallsTest full) {
        midway.refusesEach(NO_SUCH, beyond(5), 0, "plan", 3, 1);
        midway.refusesEach(NO_SUCH, beyond(1), 1, "plan", 3, 1);
        midway.refusesEach(NO_SUCH, beyond(1), 1, "plan", 0, 1);
        full.refusesEach(NO_SUCH, beyond(23), 0, "plan", 0, 0);
        full.refusesEach(NO_SUCH, beyond(3), 1, "plan", 0, 0);
        for (int vat = 0; vat < 2; vat++) {
            midway.refusesEach(STATE, new int[] {0, 1, 2, 4}, 0, "plan", 0, vat);
        }
        // Lot 22 is just light enough for vat 0, lot 23 is not; lot 0 is planned, and too heavy for vat 1.
        full.refusesEach(STATE, new int[] {6, 22, 23}, 0, "plan", 0, 0);
        full.refuses(STATE, "plan", 0, 1);
        midway.refuses(UNSUPPORTED, "plan", 3, 0);
        full.refuses(UNSUPPORTED, "plan", 6, 3);
        midway.refusesEach(NO_SUCH, beyond(5), 0, "unplan", 4);
        midway.refusesEach(STATE, new int[] {0, 1, 2, 3, 5}, 0, "unplan", 0);
        full.refusesEach(STATE, new int[] {6, 23}, 0, "unplan", 0);
        midway.refusesEach(NO_SUCH, beyond(1), 0, "plannedAt", 0, 0);
        midway.refusesEach(NO_SUCH, beyond(1), 0, "plannedAt", 0, -1);
        midway.refusesEach(INDEX, beyond(0), 1, "plannedAt", 0, 0);
        midway.refusesEach(INDEX, beyond(-1), 1, "plannedAt", 1, 0);
        full.refusesEach(INDEX, beyond(5), 1, "plannedAt", 0, 0);
        String[] methods = {"planned", "leastHours", "leastByAll", "firstOf"};
        for (String method : methods) {
            midway.refusesEach(NO_SUCH, beyond(1), 0, method, 0);
            full.refusesEach(NO_SUCH, beyond(3), 0, method, 0);
        }
        midway.refuses(STATE, "firstOf", 1);
        full.refuses(STATE, "firstOf", 3);
    }

    /** Promises 27 and 30 to 32. */
    private static void shades(RefusedCallsTest fresh, RefusedCallsTest midway, RefusedCallsTest full) {
        midway.refusesEach(NO_SUCH, beyond(5), 0, "shadeOf", 0, 0);
        midway.refusesEach(NO_SUCH, beyond(5), 0, "shadeOf", 0, 3);
        midway.refusesEach(STATE, new int[] {3, 4, 5}, 0, "shadeOf", 0, 2);
        midway.refusesEach(STATE, beyond(2), 1, "shadeOf", 3, 0);
        for (int lot = 0; lot < 3; lot++) {
            midway.refusesEach(INDEX, beyond(2), 1, "shadeOf", lot, 0);
        }
        for (int place = 0; place < 2; place++) {
            midway.refusesEach(NO_SUCH, beyond(5), place, "distance", 0, 0);
            midway.refusesEach(NO_SUCH, beyond(5), place, "distance", 3, 3);
            midway.refusesEach(STATE, new int[] {3, 4, 5}, place, "distance", 0, 0);
        }
        midway.refuses(STATE, "distance", 3, 3);
        midway.refuses(STATE, "distance", 3, 4);
        midway.refusesEach(NO_SUCH, beyond(5), 0, "nearest", 0);
        midway.refusesEach(STATE, new int[] {3, 4, 5}, 0, "nearest", 0);
        midway.refuses(UNSUPPORTED, "nearest", 0);
        full.refuses(STATE, "nearest", 0);
        midway.refusesEach(INDEX, beyond(2), 0, "byLight", 0);
        full.refusesEach(INDEX, new int[] {0, 23, 24}, 0, "byLight", 0);
        fresh.refusesEach(INDEX, beyond(-1), 0, "byLight", 0);
    }

    /** Promises 33 to 43. */
    private static void askingOfVatsAndOrders(RefusedCallsTest midway, RefusedCallsTest full) {
        String[] ofVats = {"clock", "cleanings", "lightIn", "customerOf"};
        for (String method : ofVats) {
            midway.refusesEach(NO_SUCH, beyond(1), 0, method, 0);
            full.refusesEach(NO_SUCH, beyond(3), 0, method, 0);
        }
        midway.refuses(STATE, "lightIn", 0);
        midway.refuses(STATE, "customerOf", 0);
        String[] ofOrders = {"lotsOf", "passedOf", "spread", "lateBy", "due"};
        for (String method : ofOrders) {
            midway.refusesEach(NO_SUCH, beyond(2), 0, method, 0);
            full.refusesEach(NO_SUCH, beyond(5), 0, method, 0);
        }
        midway.refusesEach(ARGUMENT, beyond(3), 0, "dues", 0);
        midway.refusesEach(ARGUMENT, beyond(2), 0, "used", 0);
    }

    /** Promises 44 and 45. */
    private static void sharesAndMeans(RefusedCallsTest fresh, RefusedCallsTest full) {
        fresh.refuses(ARITHMETIC, "passedShare");
        full.refuses(ARITHMETIC, "passedShare");
        fresh.refuses(ARITHMETIC, "meanOff");
        full.refuses(ARITHMETIC, "meanOff");
        new RefusedCallsTest(RefusedCallsTest::onlyDyed).refuses(ARITHMETIC, "passedShare");
    }

    private static DyehouseLedger onlyDyed() {
        DyehouseLedger d = new DyehouseLedger();
        d.addRecipe(10, 10, 10);
        d.addOrder(0, 0, 0, 0, 0);
        d.addVat(100);
        d.addLot(0, 10);
        d.dye(0, 0, 10, 10, 10);
        return d;
    }

    /** Promise 1: "without recipes, orders, lots and vats". */
    private static void nothingIsInAFreshOne(RefusedCallsTest fresh) {
        String[] ofOne = {
            "hoursFor", "clean", "verdict", "judge", "again", "unplan", "planned", "leastHours", "leastByAll", "firstOf",
            "stateOf", "vatOf", "offBy", "nearest", "clock", "cleanings", "lightIn", "customerOf", "lotsOf", "passedOf",
            "spread", "lateBy", "due",
        };
        for (String method : ofOne) {
            fresh.refuses(NO_SUCH, method, 0);
        }
        String[] ofTwo = {"addLot", "needs", "reason", "plan", "plannedAt", "shadeOf", "distance"};
        for (String method : ofTwo) {
            fresh.refuses(NO_SUCH, method, 0, 1);
        }
        fresh.refuses(NO_SUCH, "setDye", 0, 0, 0);
        fresh.refuses(NO_SUCH, "addOrder", 0, 0, 0, 0, 0);
        fresh.refuses(NO_SUCH, "dye", 0, 0, 0, 0, 0);
    }
}
