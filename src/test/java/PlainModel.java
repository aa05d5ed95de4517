import java.util.ArrayList;
import java.util.List;
import java.util.NoSuchElementException;

/**
 * The document told a second time, as a list of all that happened: every answer is found by going through the list
 * from its start. It is slow and shares no idea with the class, so that both seldom err in the same way.
 */
final class PlainModel {
    private static final int CLEANED = 0;
    private static final int DYED = 1;
    private static final int PASSED = 2;
    private static final int REFUSED = 3;
    private static final int AGAIN = 4;

    /** What happened: the kind, the lot or -1, the vat or -1; of a dyeing the shade and the grams of the three dyes too. */
    private final List<int[]> events = new ArrayList<>();
    private final List<int[]> recipes = new ArrayList<>();
    private final List<int[]> orders = new ArrayList<>();
    private final List<int[]> lots = new ArrayList<>();
    private final List<Integer> vats = new ArrayList<>();
    private final List<List<Integer>> plans = new ArrayList<>();
    private final long[] supplied = new long[3];

    int addRecipe(int light, int red, int blue) {
        argumentUnless(isShade(light, red, blue));
        stateUnless(recipes.size() < 8);
        recipes.add(new int[] {light, red, blue, 0, 0, 0});
        return recipes.size() - 1;
    }

    int setDye(int recipe, int dye, int grams) {
        noSuchUnless(isIn(recipe, recipes));
        argumentUnless(isDye(dye) && grams >= 0 && grams <= 5000);
        int before = recipes.get(recipe)[3 + dye];
        recipes.get(recipe)[3 + dye] = grams;
        return before;
    }

    int supply(int dye, int grams) {
        argumentUnless(isDye(dye) && grams >= 1 && grams <= 99999);
        stateUnless(stock(dye) + (long) grams <= 9999999);
        supplied[dye] += grams;
        return stock(dye);
    }

    int stock(int dye) {
        argumentUnless(isDye(dye));
        return (int) (supplied[dye] - used(dye));
    }

    int addOrder(int customer, int recipe, int bound, int day, int price) {
        noSuchUnless(isIn(recipe, recipes));
        argumentUnless(customer >= 0 && customer <= 3 && bound >= 0 && bound <= 30);
        argumentUnless(day >= 0 && day <= 99 && price >= 0 && price <= 99);
        stateUnless(orders.size() < 6);
        orders.add(new int[] {customer, recipe, bound, day, price});
        return orders.size() - 1;
    }

    int addLot(int order, int weight) {
        noSuchUnless(isIn(order, orders));
        argumentUnless(weight >= 1 && weight <= 200);
        stateUnless(lots.size() < 24);
        lots.add(new int[] {order, weight});
        return lots.size() - 1;
    }

    int addVat(int weight) {
        argumentUnless(weight >= 10 && weight <= 300);
        stateUnless(vats.size() < 4);
        vats.add(weight);
        plans.add(new ArrayList<>());
        return vats.size() - 1;
    }

    int needs(int lot, int dye) {
        noSuchUnless(isIn(lot, lots));
        argumentUnless(isDye(dye));
        int hundredths = recipeOf(lot)[3 + dye] * lots.get(lot)[1];
        return hundredths % 100 == 0 ? hundredths / 100 : hundredths / 100 + 1;
    }

    int hoursFor(int lot) {
        noSuchUnless(isIn(lot, lots));
        int hours = 4;
        for (int weight = lots.get(lot)[1]; weight > 0; weight -= 50) {
            hours++;
        }
        return hours;
    }

    char reason(int lot, int vat) {
        noSuchUnless(isIn(lot, lots) && isIn(vat, vats));
        if (stateOf(lot) != 'w') {
            return 'w';
        }
        if (lots.get(lot)[1] > vats.get(vat)) {
            return 'h';
        }
        if (lightOrNone(vat) >= 0 && lightOrNone(vat) < recipeOf(lot)[0]) {
            return 's';
        }
        if (customerOrNone(vat) >= 0 && customerOrNone(vat) != orderOf(lot)[0]) {
            return 'b';
        }
        boolean enough = stock(0) >= needs(lot, 0) && stock(1) >= needs(lot, 1) && stock(2) >= needs(lot, 2);
        return enough ? '-' : 'g';
    }

    int dye(int lot, int vat, int light, int red, int blue) {
        noSuchUnless(isIn(lot, lots) && isIn(vat, vats));
        argumentUnless(isShade(light, red, blue));
        unsupportedUnless(reason(lot, vat) == '-');
        events.add(new int[] {DYED, lot, vat, light, red, blue, needs(lot, 0), needs(lot, 1), needs(lot, 2)});
        for (List<Integer> plan : plans) {
            plan.remove(Integer.valueOf(lot));
        }
        return clock(vat);
    }

    int clean(int vat) {
        noSuchUnless(isIn(vat, vats));
        events.add(new int[] {CLEANED, -1, vat});
        return clock(vat);
    }

    char verdict(int lot) {
        noSuchUnless(isIn(lot, lots));
        stateUnless(stateOf(lot) == 'd');
        int bound = orderOf(lot)[2];
        if (offBy(lot) > bound) {
            return 'f';
        }
        for (int other : passedLots(lots.get(lot)[0])) {
            if (distance(lot, other) > bound) {
                return 'a';
            }
        }
        return 'p';
    }

    boolean judge(int lot) {
        boolean passes = verdict(lot) == 'p';
        events.add(new int[] {passes ? PASSED : REFUSED, lot, -1});
        return passes;
    }

    int again(int lot) {
        noSuchUnless(isIn(lot, lots));
        stateUnless(stateOf(lot) == 'x');
        events.add(new int[] {AGAIN, lot, -1});
        return inState('w');
    }

    int plan(int lot, int vat) {
        noSuchUnless(isIn(lot, lots) && isIn(vat, vats));
        stateUnless(stateOf(lot) == 'w' && vatPlannedFor(lot) < 0 && plans.get(vat).size() < 6);
        unsupportedUnless(lots.get(lot)[1] <= vats.get(vat));
        plans.get(vat).add(lot);
        plans.get(vat).sort(null);
        return plans.get(vat).size();
    }

    int unplan(int lot) {
        noSuchUnless(isIn(lot, lots));
        int vat = vatPlannedFor(lot);
        stateUnless(vat >= 0);
        plans.get(vat).remove(Integer.valueOf(lot));
        return vat;
    }

    int planned(int vat) {
        noSuchUnless(isIn(vat, vats));
        return plans.get(vat).size();
    }

    int plannedAt(int vat, int place) {
        noSuchUnless(isIn(vat, vats));
        indexUnless(isIn(place, plans.get(vat)));
        return plans.get(vat).get(place);
    }

    int leastHours(int vat) {
        noSuchUnless(isIn(vat, vats));
        return leastHours(plans.get(vat), lightOrNone(vat), customerOrNone(vat));
    }

    int leastByAll(int vat) {
        return leastHours(vat);
    }

    int firstOf(int vat) {
        noSuchUnless(isIn(vat, vats));
        List<Integer> plan = plans.get(vat);
        stateUnless(!plan.isEmpty());
        int least = leastHours(vat);
        for (int first : plan) {
            if (leastHoursFrom(first, plan, lightOrNone(vat), customerOrNone(vat)) == least) {
                return first;
            }
        }
        throw new AssertionError("no order takes the least hours");
    }

    int recipes() {
        return recipes.size();
    }

    int lots() {
        return lots.size();
    }

    char stateOf(int lot) {
        noSuchUnless(isIn(lot, lots));
        char state = 'w';
        for (int[] event : events) {
            if (event[1] == lot) {
                state = "-dpxw".charAt(event[0]);
            }
        }
        return state;
    }

    int shadeOf(int lot, int part) {
        int[] dyeing = lastDyeing(lot);
        indexUnless(part >= 0 && part <= 2);
        return dyeing[3 + part];
    }

    int vatOf(int lot) {
        return lastDyeing(lot)[2];
    }

    int offBy(int lot) {
        return far(lastDyeing(lot), 3, recipeOf(lot), 0);
    }

    int distance(int lot, int other) {
        noSuchUnless(isIn(lot, lots) && isIn(other, lots));
        return far(lastDyeing(lot), 3, lastDyeing(other), 3);
    }

    int nearest(int lot) {
        lastDyeing(lot);
        int best = -1;
        for (int other = lots.size() - 1; other >= 0; other--) {
            if (other != lot && stateOf(other) == 'p' && (best < 0 || distance(lot, other) <= distance(lot, best))) {
                best = other;
            }
        }
        unsupportedUnless(best >= 0);
        return best;
    }

    int byLight(int place) {
        List<int[]> rows = new ArrayList<>();
        for (int lot = 0; lot < lots.size(); lot++) {
            if (stateOf(lot) != 'w') {
                rows.add(new int[] {-shadeOf(lot, 0), shadeOf(lot, 1), shadeOf(lot, 2), lot});
            }
        }
        indexUnless(isIn(place, rows));
        rows.sort(java.util.Arrays::compare);
        return rows.get(place)[3];
    }

    int clock(int vat) {
        noSuchUnless(isIn(vat, vats));
        return clockBehind(vat, events.size());
    }

    int cleanings(int vat) {
        noSuchUnless(isIn(vat, vats));
        int count = 0;
        for (int[] event : events) {
            count += event[0] == CLEANED && event[2] == vat ? 1 : 0;
        }
        return count;
    }

    int lightIn(int vat) {
        noSuchUnless(isIn(vat, vats));
        stateUnless(lightOrNone(vat) >= 0);
        return lightOrNone(vat);
    }

    int customerOf(int vat) {
        noSuchUnless(isIn(vat, vats));
        stateUnless(customerOrNone(vat) >= 0);
        return customerOrNone(vat);
    }

    int lotsOf(int order) {
        noSuchUnless(isIn(order, orders));
        int count = 0;
        for (int[] lot : lots) {
            count += lot[0] == order ? 1 : 0;
        }
        return count;
    }

    int passedOf(int order) {
        noSuchUnless(isIn(order, orders));
        return passedLots(order).size();
    }

    int spread(int order) {
        noSuchUnless(isIn(order, orders));
        int greatest = 0;
        for (int one : passedLots(order)) {
            for (int two : passedLots(order)) {
                greatest = distance(one, two) > greatest ? distance(one, two) : greatest;
            }
        }
        return greatest;
    }

    int lateBy(int order) {
        noSuchUnless(isIn(order, orders));
        int late = 0;
        for (int lot = 0; lot < lots.size(); lot++) {
            if (lots.get(lot)[0] == order && stateOf(lot) != 'w') {
                int[] dyeing = lastDyeing(lot);
                int day = clockBehind(dyeing[2], events.indexOf(dyeing) + 1) / 24;
                late = Math.max(late, day - orders.get(order)[3]);
            }
        }
        return late;
    }

    int due(int order) {
        int amount = -100 * lateBy(order);
        for (int lot : passedLots(order)) {
            amount += lots.get(lot)[1] * orders.get(order)[4];
        }
        return amount < 0 ? 0 : amount;
    }

    long dues(int customer) {
        argumentUnless(customer >= 0 && customer <= 3);
        long sum = 0;
        for (int order = 0; order < orders.size(); order++) {
            sum += orders.get(order)[0] == customer ? due(order) : 0;
        }
        return sum;
    }

    long used(int dye) {
        argumentUnless(isDye(dye));
        long grams = 0;
        for (int[] event : events) {
            grams += event[0] == DYED ? event[6 + dye] : 0;
        }
        return grams;
    }

    float passedShare() {
        int judged = inState('p') + inState('x');
        arithmeticUnless(judged > 0);
        return (float) inState('p') / (float) judged;
    }

    double meanOff() {
        int sum = 0;
        int count = lots.size() - inState('w');
        arithmeticUnless(count > 0);
        for (int lot = 0; lot < lots.size(); lot++) {
            sum += stateOf(lot) == 'w' ? 0 : offBy(lot);
        }
        return (double) sum / (double) count;
    }

    /** What the document lets a dyehouse never break. */
    boolean keepsItsBounds() {
        boolean kept = true;
        for (int order = 0; order < orders.size(); order++) {
            kept &= spread(order) <= orders.get(order)[2];
        }
        return kept;
    }

    int[] recipeOf(int lot) {
        return recipes.get(orderOf(lot)[1]);
    }

    int count(String things) {
        switch (things) {
            case "recipes":
                return recipes.size();
            case "orders":
                return orders.size();
            case "lots":
                return lots.size();
            default:
                return vats.size();
        }
    }

    private int[] orderOf(int lot) {
        return orders.get(lots.get(lot)[0]);
    }

    private int[] lastDyeing(int lot) {
        stateUnless(stateOf(lot) != 'w');
        int[] last = null;
        for (int[] event : events) {
            last = event[0] == DYED && event[1] == lot ? event : last;
        }
        return last;
    }

    private int clockBehind(int vat, int eventCount) {
        int hours = 0;
        for (int[] event : events.subList(0, eventCount)) {
            if (event[2] == vat) {
                hours += event[0] == CLEANED ? 3 : hoursFor(event[1]);
            }
        }
        return hours;
    }

    private int lightOrNone(int vat) {
        int light = -1;
        for (int[] event : events) {
            if (event[2] == vat) {
                light = event[0] == CLEANED ? -1 : event[3];
            }
        }
        return light;
    }

    private int customerOrNone(int vat) {
        int customer = -1;
        boolean[] inThisVat = new boolean[lots.size()];
        for (int[] event : events) {
            if (event[0] == CLEANED && event[2] == vat) {
                customer = -1;
                inThisVat = new boolean[lots.size()];
            } else if (event[0] == DYED) {
                inThisVat[event[1]] = event[2] == vat;
            } else if (event[0] == PASSED && inThisVat[event[1]]) {
                customer = orderOf(event[1])[0];
            }
        }
        return customer;
    }

    private int leastHours(List<Integer> rest, int light, int customer) {
        int least = rest.isEmpty() ? 0 : Integer.MAX_VALUE;
        for (int next : rest) {
            least = Math.min(least, leastHoursFrom(next, rest, light, customer));
        }
        return least;
    }

    private int leastHoursFrom(int next, List<Integer> rest, int light, int customer) {
        boolean dark = light >= 0 && light < recipeOf(next)[0];
        boolean barred = customer >= 0 && customer != orderOf(next)[0];
        List<Integer> others = new ArrayList<>(rest);
        others.remove(Integer.valueOf(next));
        int hours = hoursFor(next) + (dark || barred ? 3 : 0);
        return hours + leastHours(others, recipeOf(next)[0], dark || barred ? -1 : customer);
    }

    private List<Integer> passedLots(int order) {
        List<Integer> passed = new ArrayList<>();
        for (int lot = 0; lot < lots.size(); lot++) {
            if (lots.get(lot)[0] == order && stateOf(lot) == 'p') {
                passed.add(lot);
            }
        }
        return passed;
    }

    private int inState(char state) {
        int count = 0;
        for (int lot = 0; lot < lots.size(); lot++) {
            count += stateOf(lot) == state ? 1 : 0;
        }
        return count;
    }

    private int vatPlannedFor(int lot) {
        for (int vat = 0; vat < plans.size(); vat++) {
            if (plans.get(vat).contains(lot)) {
                return vat;
            }
        }
        return -1;
    }

    private static int far(int[] one, int oneFrom, int[] two, int twoFrom) {
        int sum = 0;
        for (int part = 0; part < 3; part++) {
            int difference = one[oneFrom + part] - two[twoFrom + part];
            sum += difference < 0 ? -difference : difference;
        }
        return sum;
    }

    private static boolean isIn(int number, List<?> things) {
        return number >= 0 && number < things.size();
    }

    private static boolean isDye(int dye) {
        return dye >= 0 && dye <= 2;
    }

    private static boolean isShade(int light, int red, int blue) {
        return Math.min(light, Math.min(red, blue)) >= 0 && Math.max(light, Math.max(red, blue)) <= 20;
    }

    private static void noSuchUnless(boolean right) {
        if (!right) {
            throw new NoSuchElementException();
        }
    }

    private static void argumentUnless(boolean right) {
        if (!right) {
            throw new IllegalArgumentException();
        }
    }

    private static void stateUnless(boolean right) {
        if (!right) {
            throw new IllegalStateException();
        }
    }

    private static void unsupportedUnless(boolean right) {
        if (!right) {
            throw new UnsupportedOperationException();
        }
    }

    private static void indexUnless(boolean right) {
        if (!right) {
            throw new IndexOutOfBoundsException();
        }
    }

    private static void arithmeticUnless(boolean right) {
        if (!right) {
            throw new ArithmeticException();
        }
    }
}
