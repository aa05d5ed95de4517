import java.lang.reflect.Constructor;
import java.lang.reflect.Field;
import java.lang.reflect.Method;
import java.lang.reflect.Modifier;
import java.util.Arrays;
import java.util.TreeSet;

/** The face of the document, no member more and none less, and the promise 1. */
public final class FaceTest {
    private static final String[] FACE = {
        "int addRecipe(int, int, int) IllegalArgumentException IllegalStateException",
        "int setDye(int, int, int) NoSuchElementException IllegalArgumentException",
        "int supply(int, int) IllegalArgumentException IllegalStateException",
        "int stock(int) IllegalArgumentException",
        "int addOrder(int, int, int, int, int) NoSuchElementException IllegalArgumentException IllegalStateException",
        "int addLot(int, int) NoSuchElementException IllegalArgumentException IllegalStateException",
        "int addVat(int) IllegalArgumentException IllegalStateException",
        "int needs(int, int) NoSuchElementException IllegalArgumentException",
        "int hoursFor(int) NoSuchElementException",
        "char reason(int, int) NoSuchElementException",
        "int dye(int, int, int, int, int) NoSuchElementException IllegalArgumentException UnsupportedOperationException",
        "int clean(int) NoSuchElementException",
        "char verdict(int) NoSuchElementException IllegalStateException",
        "boolean judge(int) NoSuchElementException IllegalStateException",
        "int again(int) NoSuchElementException IllegalStateException",
        "int plan(int, int) NoSuchElementException IllegalStateException UnsupportedOperationException",
        "int unplan(int) NoSuchElementException IllegalStateException",
        "int planned(int) NoSuchElementException",
        "int plannedAt(int, int) NoSuchElementException IndexOutOfBoundsException",
        "int leastHours(int) NoSuchElementException",
        "int leastByAll(int) NoSuchElementException",
        "int firstOf(int) NoSuchElementException IllegalStateException",
        "int recipes()",
        "int lots()",
        "char stateOf(int) NoSuchElementException",
        "int shadeOf(int, int) NoSuchElementException IllegalStateException IndexOutOfBoundsException",
        "int vatOf(int) NoSuchElementException IllegalStateException",
        "int offBy(int) NoSuchElementException IllegalStateException",
        "int distance(int, int) NoSuchElementException IllegalStateException",
        "int nearest(int) NoSuchElementException IllegalStateException UnsupportedOperationException",
        "int byLight(int) IndexOutOfBoundsException",
        "int clock(int) NoSuchElementException",
        "int cleanings(int) NoSuchElementException",
        "int lightIn(int) NoSuchElementException IllegalStateException",
        "int customerOf(int) NoSuchElementException IllegalStateException",
        "int lotsOf(int) NoSuchElementException",
        "int passedOf(int) NoSuchElementException",
        "int spread(int) NoSuchElementException",
        "int lateBy(int) NoSuchElementException",
        "int due(int) NoSuchElementException",
        "long dues(int) IllegalArgumentException",
        "long used(int) IllegalArgumentException",
        "float passedShare() ArithmeticException",
        "double meanOff() ArithmeticException",
    };

    public static void main(String[] args) {
        publicMethodsAreThoseOfTheDocument();
        nothingElseCanBeSeen();
        aNewDyehouseIsEmpty();
        Check.close();
    }

    private static void publicMethodsAreThoseOfTheDocument() {
        TreeSet<String> found = new TreeSet<>();
        TreeSet<String> publicNames = new TreeSet<>();
        for (Method method : DyehouseLedger.class.getDeclaredMethods()) {
            if (Modifier.isPublic(method.getModifiers())) {
                found.add(described(method));
                publicNames.add(method.getName());
            }
        }
        Check.due("the public methods", found, new TreeSet<>(Arrays.asList(FACE)));
        for (Method method : DyehouseLedger.class.getDeclaredMethods()) {
            if (!Modifier.isPublic(method.getModifiers())) {
                Check.due(method + " is private", Modifier.isPrivate(method.getModifiers()), true);
                Check.due(method + " bears a public name", publicNames.contains(method.getName()), false);
            }
        }
    }

    private static String described(Method method) {
        StringBuilder text = new StringBuilder();
        text.append(method.getReturnType().getSimpleName()).append(' ').append(method.getName()).append('(');
        String gap = "";
        for (Class<?> type : method.getParameterTypes()) {
            text.append(gap).append(type.getSimpleName());
            gap = ", ";
        }
        text.append(')');
        for (Class<?> type : method.getExceptionTypes()) {
            text.append(' ').append(type.getSimpleName());
        }
        return text.toString();
    }

    private static void nothingElseCanBeSeen() {
        int modifiers = DyehouseLedger.class.getModifiers();
        Check.due("public final", Modifier.isPublic(modifiers) && Modifier.isFinal(modifiers), true);
        Constructor<?>[] constructors = DyehouseLedger.class.getDeclaredConstructors();
        Check.due("constructors", constructors.length, 1);
        Check.due("public constructor", Modifier.isPublic(constructors[0].getModifiers()), true);
        for (Field field : DyehouseLedger.class.getDeclaredFields()) {
            Check.due(field + " is private", Modifier.isPrivate(field.getModifiers()), true);
            if (Modifier.isStatic(field.getModifiers())) {
                Check.due(field + " is final", Modifier.isFinal(field.getModifiers()), true);
            }
        }
    }

    private static void aNewDyehouseIsEmpty() {
        DyehouseLedger d = new DyehouseLedger();
        Check.due("recipes()", d.recipes(), 0);
        Check.due("lots()", d.lots(), 0);
        for (int dye = 0; dye < 3; dye++) {
            Check.due("stock", d.stock(dye), 0);
            Check.due("used", d.used(dye), 0L);
        }
        for (int customer = 0; customer < 4; customer++) {
            Check.due("dues", d.dues(customer), 0L);
        }
        Check.throwsOnly(java.util.NoSuchElementException.class, "setDye(0, 0, 0)", () -> d.setDye(0, 0, 0));
        Check.throwsOnly(java.util.NoSuchElementException.class, "lotsOf(0)", () -> d.lotsOf(0));
        Check.throwsOnly(java.util.NoSuchElementException.class, "stateOf(0)", () -> d.stateOf(0));
        Check.throwsOnly(java.util.NoSuchElementException.class, "clock(0)", () -> d.clock(0));
        d.addRecipe(0, 0, 0);
        Check.due("a dyehouse made later has nothing of this one", new DyehouseLedger().recipes(), 0);
    }
}
