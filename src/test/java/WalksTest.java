import java.lang.reflect.InvocationTargetException;
import java.lang.reflect.Method;
import java.util.ArrayList;
import java.util.Arrays;
import java.util.Comparator;
import java.util.List;

/**
 * Long walks of calls with ordinary and wild numbers: only declared exceptions come, a call that throws
 * changes nothing, nor does one that only asks, and what holds for every dyehouse holds at every step.
 */
public final class WalksTest {
    private static final List<String> CHANGERS = Arrays.asList("addRecipe", "setDye", "supply", "addOrder", "addLot",
            "addVat", "dye", "clean", "judge", "again", "plan", "unplan");
    private static final int[] WILD = {-1, 24, 31, 100, 5001, 1 << 30, Integer.MIN_VALUE, Integer.MAX_VALUE};

    private final Dice dice;
    private final List<Method> methods = new ArrayList<>();

    private WalksTest(int seed) {
        dice = new Dice(seed);
        for (Method method : DyehouseLedger.class.getDeclaredMethods()) {
            if (java.lang.reflect.Modifier.isPublic(method.getModifiers())) {
                // The methods that change much come up more often.
                for (int i = 0; i < (CHANGERS.contains(method.getName()) ? 4 : 1); i++) {
                    methods.add(method);
                }
            }
        }
        methods.sort(Comparator.comparing(Method::getName));
    }

    public static void main(String[] args) throws IllegalAccessException {
        for (int seed = 0; seed < 60; seed++) {
            new WalksTest(seed).walk();
        }
        Check.close();
    }

    private void walk() throws IllegalAccessException {
        DyehouseLedger d = new DyehouseLedger();
        furnish(d);
        String before = Snapshot.of(d);
        for (int step = 0; step < 400; step++) {
            Method method = methods.get(dice.below(methods.size()));
            Object[] numbers = numbersFor(method);
            boolean changes = CHANGERS.contains(method.getName());
            try {
                method.invoke(d, numbers);
            } catch (InvocationTargetException e) {
                changes = false;
                boolean declared = Arrays.asList(method.getExceptionTypes()).contains(e.getCause().getClass());
                Check.due(method.getName() + Arrays.toString(numbers) + " throws what it declares", declared, true);
            }
            String after = Snapshot.of(d);
            if (!changes) {
                Check.due("behind " + method.getName() + Arrays.toString(numbers), after, before);
            }
            before = after;
            checkWhatAlwaysHolds(d);
        }
    }

    private void furnish(DyehouseLedger d) {
        for (int i = 0; i < 4; i++) {
            d.addRecipe(dice.below(21), dice.below(21), dice.below(21));
            d.supply(i % 3, 99999);
            d.addOrder(i, i, 10 + dice.below(21), dice.below(3), dice.below(100));
        }
        for (int i = 0; i < 10; i++) {
            d.addLot(dice.below(4), 1 + dice.below(100));
        }
        d.addVat(200);
        d.addVat(80);
    }

    private Object[] numbersFor(Method method) {
        Object[] numbers = new Object[method.getParameterCount()];
        for (int i = 0; i < numbers.length; i++) {
            boolean small = dice.below(3) > 0;
            numbers[i] = dice.below(40) == 0 ? WILD[dice.below(WILD.length)] : dice.below(small ? 4 : 24);
        }
        return numbers;
    }

    private static void checkWhatAlwaysHolds(DyehouseLedger d) {
        for (int vat = 0; vat < 2; vat++) {
            Check.due("leastByAll", d.leastByAll(vat), d.leastHours(vat));
        }
        for (int order = 0; order < 4; order++) {
            Check.due("passed lots are lots", d.passedOf(order) <= d.lotsOf(order), true);
            Check.due("never less than nothing", d.due(order) >= 0 && d.lateBy(order) >= 0, true);
        }
        for (int dye = 0; dye < 3; dye++) {
            Check.due("no stock below nothing", d.stock(dye) >= 0, true);
        }
    }

    /** All that can be asked of a dyehouse, as a text. */
    private static final class Snapshot {
        static String of(DyehouseLedger d) {
            StringBuilder text = new StringBuilder();
            text.append(d.recipes()).append(' ').append(d.lots());
            note(text, d::passedShare);
            note(text, d::meanOff);
            for (int i = 0; i < 6; i++) {
                int n = i;
                note(text, () -> d.stock(n));
                note(text, () -> d.used(n));
                note(text, () -> d.dues(n));
                noteOrder(text, d, n);
                noteVat(text, d, n);
            }
            for (int lot = 0; lot < d.lots(); lot++) {
                noteLot(text, d, lot);
            }
            return text.toString();
        }

        private static void note(StringBuilder text, Check.Call call) {
            text.append(' ').append(Check.outcome(call));
        }

        private static void noteOrder(StringBuilder text, DyehouseLedger d, int order) {
            note(text, () -> d.lotsOf(order));
            note(text, () -> d.passedOf(order));
            note(text, () -> d.spread(order));
            note(text, () -> d.lateBy(order));
            note(text, () -> d.due(order));
        }

        private static void noteVat(StringBuilder text, DyehouseLedger d, int vat) {
            note(text, () -> d.planned(vat));
            note(text, () -> d.leastHours(vat));
            note(text, () -> d.firstOf(vat));
            note(text, () -> d.clock(vat));
            note(text, () -> d.cleanings(vat));
            note(text, () -> d.lightIn(vat));
            note(text, () -> d.customerOf(vat));
            for (int place = 0; place < 6; place++) {
                int at = place;
                note(text, () -> d.plannedAt(vat, at));
            }
        }

        private static void noteLot(StringBuilder text, DyehouseLedger d, int lot) {
            note(text, () -> d.stateOf(lot));
            note(text, () -> d.hoursFor(lot));
            note(text, () -> d.vatOf(lot));
            note(text, () -> d.offBy(lot));
            note(text, () -> d.verdict(lot));
            note(text, () -> d.nearest(lot));
            note(text, () -> d.byLight(lot));
            for (int i = 0; i < 4; i++) {
                int n = i;
                note(text, () -> d.needs(lot, n));
                note(text, () -> d.shadeOf(lot, n));
                note(text, () -> d.reason(lot, n));
                note(text, () -> d.distance(lot, n));
            }
        }
    }
}
