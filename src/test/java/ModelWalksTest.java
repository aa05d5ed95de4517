import java.lang.reflect.InvocationTargetException;
import java.lang.reflect.Method;
import java.lang.reflect.Modifier;
import java.util.ArrayList;
import java.util.Arrays;
import java.util.Comparator;
import java.util.List;

/**
 * Walks of at most 512 calls with ordinary and wild numbers, each call put to the class and to PlainModel: both must
 * answer the same or throw the same. As a call that throws changes nothing in the model, it may change nothing here.
 */
public final class ModelWalksTest {
    private static final int MOST_CALLS = 512;
    private static final int[] WILD = {-1, 4, 6, 8, 24, 31, 100, 201, 5001, 1 << 30, Integer.MIN_VALUE, Integer.MAX_VALUE};
    /** How often a method comes up, where it is not once in a hundred calls or so. */
    private static final String[] OFTEN = {
        "dye 9", "clean 4", "judge 7", "again 4", "plan 12", "unplan 3", "setDye 2", "supply 6", "addRecipe 1",
        "addOrder 1", "addLot 5", "addVat 1", "reason 4", "firstOf 3", "leastHours 3", "verdict 3", "nearest 3",
        "byLight 3", "lateBy 3", "due 3", "customerOf 3", "plannedAt 2",
    };

    private final Dice dice;
    private final DyehouseLedger ledger = new DyehouseLedger();
    private final PlainModel model = new PlainModel();
    private final List<Method> methods = new ArrayList<>();
    private int calls;

    private ModelWalksTest(int seed) {
        dice = new Dice(seed);
        for (Method method : DyehouseLedger.class.getDeclaredMethods()) {
            if (Modifier.isPublic(method.getModifiers())) {
                for (int i = 0; i < timesOf(method.getName()); i++) {
                    methods.add(method);
                }
            }
        }
        methods.sort(Comparator.comparing(Method::getName));
    }

    public static void main(String[] args) throws ReflectiveOperationException {
        for (int seed = 0; seed < 300; seed++) {
            new ModelWalksTest(seed).walk(seed);
        }
        Check.close();
    }

    private static int timesOf(String name) {
        for (String row : OFTEN) {
            if (row.startsWith(name + " ")) {
                return Integer.parseInt(row.substring(name.length() + 1));
            }
        }
        return 1;
    }

    private void walk(int seed) throws ReflectiveOperationException {
        furnish();
        while (calls < MOST_CALLS) {
            Method method = methods.get(dice.below(methods.size()));
            Object[] numbers = numbersFor(method);
            if (dice.below(2) == 0 && asksForCleaning(method, numbers)) {
                call("clean", numbers[1]);
            }
            if (calls < MOST_CALLS) {
                call(method, numbers);
            }
        }
        Check.due("no order is spread beyond its bound in walk " + seed, model.keepsItsBounds(), true);
    }

    /** Without this the vats would soon hold dark shades and few lots would ever be dyed. */
    private boolean asksForCleaning(Method method, Object[] numbers) throws ReflectiveOperationException {
        if (!method.getName().equals("dye")) {
            return false;
        }
        Method reason = PlainModel.class.getDeclaredMethod("reason", int.class, int.class);
        String letter = answer(reason, model, new Object[] {numbers[0], numbers[1]});
        return letter.equals("s") || letter.equals("b");
    }

    private void call(Method method, Object... numbers) throws ReflectiveOperationException {
        calls++;
        Method told = PlainModel.class.getDeclaredMethod(method.getName(), method.getParameterTypes());
        String name = "call " + calls + ", " + method.getName() + Arrays.toString(numbers) + ",";
        Check.due(name, answer(method, ledger, numbers), answer(told, model, numbers));
    }

    private static String answer(Method method, Object on, Object[] numbers) throws ReflectiveOperationException {
        try {
            return String.valueOf(method.invoke(on, numbers));
        } catch (InvocationTargetException e) {
            return "throws." + e.getCause().getClass().getSimpleName();
        }
    }

    private void call(String name, Object... numbers) throws ReflectiveOperationException {
        Class<?>[] types = new Class<?>[numbers.length];
        Arrays.fill(types, int.class);
        call(DyehouseLedger.class.getMethod(name, types), numbers);
    }

    private void furnish() throws ReflectiveOperationException {
        // Lights close to one another make the vats fit now and then.
        for (int recipe = 1 + dice.below(8); recipe > 0; recipe--) {
            call("addRecipe", 8 + dice.below(5), dice.below(21), dice.below(21));
        }
        for (int i = dice.below(6); i > 0; i--) {
            call("setDye", dice.below(model.count("recipes")), dice.below(3), dice.below(300));
        }
        for (int dye = 0; dye < 3; dye++) {
            call("supply", dye, 1 + dice.below(6000));
        }
        for (int order = 1 + dice.below(6); order > 0; order--) {
            call("addOrder", dice.below(4), dice.below(model.count("recipes")), dice.below(14), dice.below(4), dice.below(30));
        }
        for (int lot = 4 + dice.below(16); lot > 0; lot--) {
            call("addLot", dice.below(model.count("orders")), 1 + dice.below(200));
        }
        for (int vat = 1 + dice.below(4); vat > 0; vat--) {
            call("addVat", 300 - dice.below(3) * dice.below(140));
        }
    }

    private Object[] numbersFor(Method method) {
        Object[] numbers = new Object[method.getParameterCount()];
        for (int i = 0; i < numbers.length; i++) {
            numbers[i] = dice.below(60) == 0 ? WILD[dice.below(WILD.length)] : numberFor(method.getName(), i);
        }
        boolean rightLot = numbers.length == 5 && (int) numbers[0] >= 0 && (int) numbers[0] < model.count("lots");
        if (method.getName().equals("dye") && rightLot && dice.below(20) > 0) {
            shadeCloseTo(model.recipeOf((int) numbers[0]), numbers);
        }
        return numbers;
    }

    private void shadeCloseTo(int[] recipe, Object[] numbers) {
        for (int part = 0; part < 3; part++) {
            int off = dice.below(4) == 0 ? dice.below(13) - 6 : dice.below(3) - 1;
            numbers[2 + part] = Math.max(0, Math.min(20, recipe[part] + off));
        }
    }

    private int numberFor(String method, int place) {
        switch (method) {
            case "addRecipe":
                return dice.below(21);
            case "setDye":
                return place == 0 ? dice.below(model.count("recipes")) : place == 1 ? dice.below(3) : dice.below(300);
            case "supply":
                return place == 0 ? dice.below(3) : 1 + dice.below(4000);
            case "addOrder":
                return place == 1 ? dice.below(model.count("recipes")) : dice.below(place == 0 ? 4 : 20);
            case "addLot":
                return place == 0 ? dice.below(model.count("orders")) : 1 + dice.below(200);
            case "addVat":
                return 10 + dice.below(291);
            case "stock":
            case "used":
            case "dues":
                return dice.below(4);
            case "lotsOf":
            case "passedOf":
            case "spread":
            case "lateBy":
            case "due":
                return dice.below(model.count("orders"));
            default:
                return numberOfLotOrVat(method, place);
        }
    }

    private int numberOfLotOrVat(String method, int place) {
        switch (method) {
            case "clean":
            case "planned":
            case "leastHours":
            case "leastByAll":
            case "firstOf":
            case "clock":
            case "cleanings":
            case "lightIn":
            case "customerOf":
                return dice.below(model.count("vats"));
            case "plannedAt":
                return dice.below(place == 0 ? model.count("vats") : 4);
            case "judge":
            case "verdict":
                return lotInState('d');
            case "again":
                return lotInState('x');
            case "needs":
            case "shadeOf":
                return place == 0 ? dice.below(model.count("lots")) : dice.below(4);
            case "dye":
            case "reason":
            case "plan":
                return place == 0 ? lotInState('w') : dice.below(place == 1 ? model.count("vats") : 21);
            default:
                return dice.below(model.count("lots"));
        }
    }

    /** Mostly a lot in this state, if there is one; now and then any lot. */
    private int lotInState(char state) {
        int lot = dice.below(model.count("lots"));
        for (int i = 0; i < 12 && model.stateOf(lot) != state; i++) {
            lot = dice.below(model.count("lots"));
        }
        return lot;
    }
}
