import java.lang.reflect.Constructor;
import java.lang.reflect.Field;
import java.lang.reflect.Method;
import java.lang.reflect.Modifier;
import java.util.Set;
import java.util.TreeSet;

/** The public face is the document's, and there is nothing beside it that others could see. */
public final class FaceTest {
    private static final String ARGUMENT = "java.lang.IllegalArgumentException";
    private static final String STATE = "java.lang.IllegalStateException";
    private static final String INDEX = "java.lang.IndexOutOfBoundsException";

    private static int wrong = 0;

    private static void due(String what, Object got, Object want) {
        if (!got.equals(want)) {
            wrong++;
            System.out.println(what + ": found " + got + ", due is " + want);
        }
    }

    private static void dueAll(String what, Set<String> got, Set<String> want) {
        for (String each : want) {
            due(what + ", " + each + " is there", got.contains(each), true);
        }
        for (String each : got) {
            due(what + ", " + each + " is in the document", want.contains(each), true);
        }
    }

    private static boolean isPrivate(int modifiers) {
        return Modifier.isPrivate(modifiers);
    }

    private static Set<String> methodsOfTheDocument() {
        return new TreeSet<>(Set.of(
            "public void LayerBudgets.clear()",
            "public int LayerBudgets.block() throws " + STATE,
            "public int LayerBudgets.pass(int,int,long) throws " + ARGUMENT + "," + STATE,
            "public int LayerBudgets.step(int,int,int) throws " + ARGUMENT + "," + INDEX,
            "public long LayerBudgets.gain(int,int) throws " + ARGUMENT + "," + INDEX,
            "public int LayerBudgets.layer(int) throws " + ARGUMENT + "," + STATE,
            "public int LayerBudgets.layers()",
            "public int LayerBudgets.cut(int,int) throws " + ARGUMENT + "," + INDEX,
            "public int LayerBudgets.total(int) throws " + INDEX,
            "public long LayerBudgets.threshold(int,int) throws " + ARGUMENT + "," + INDEX));
    }

    private static void theClass() {
        due("class", Modifier.toString(LayerBudgets.class.getModifiers()), "public final");
        due("package", LayerBudgets.class.getPackageName(), "");
        due("class above", LayerBudgets.class.getSuperclass(), Object.class);
        due("interfaces", LayerBudgets.class.getInterfaces().length, 0);
    }

    private static void theConstants() {
        Set<String> seen = new TreeSet<>();
        for (Field field : LayerBudgets.class.getDeclaredFields()) {
            if (!isPrivate(field.getModifiers())) {
                seen.add(field.toString());
            } else if (Modifier.isStatic(field.getModifiers())) {
                due(field + " is final", Modifier.isFinal(field.getModifiers()), true);
            }
        }
        dueAll("constants", seen, Set.of("public static final int LayerBudgets.NONE"));
        due("NONE", LayerBudgets.NONE, -1);
    }

    private static void theConstructor() {
        Set<String> seen = new TreeSet<>();
        for (Constructor<?> constructor : LayerBudgets.class.getDeclaredConstructors()) {
            if (!isPrivate(constructor.getModifiers())) {
                seen.add(constructor.toString());
            }
        }
        dueAll("constructors", seen, Set.of("public LayerBudgets()"));
    }

    private static void theMethods() {
        Set<String> seen = new TreeSet<>();
        for (Method method : LayerBudgets.class.getDeclaredMethods()) {
            if (!isPrivate(method.getModifiers())) {
                seen.add(method.toString());
            }
        }
        dueAll("methods", seen, methodsOfTheDocument());
    }

    private static void theClassesInside() {
        for (Class<?> inside : LayerBudgets.class.getDeclaredClasses()) {
            int modifiers = inside.getModifiers();
            due(inside + " is static", Modifier.isStatic(modifiers), true);
            due(inside + " is seen from outside", Modifier.isPublic(modifiers) || Modifier.isProtected(modifiers), false);
        }
    }

    private static void noPrivateMethodBearsAPublicName() {
        Set<String> names = new TreeSet<>();
        for (Method method : LayerBudgets.class.getMethods()) {
            names.add(method.getName());
        }
        noPrivateMethodOf(LayerBudgets.class, names);
        for (Class<?> inside : LayerBudgets.class.getDeclaredClasses()) {
            noPrivateMethodOf(inside, names);
        }
    }

    private static void noPrivateMethodOf(Class<?> type, Set<String> names) {
        for (Method method : type.getDeclaredMethods()) {
            if (isPrivate(method.getModifiers())) {
                due(method + " bears the name of a public one", names.contains(method.getName()), false);
            }
        }
    }

    public static void main(String[] args) {
        theClass();
        theConstants();
        theConstructor();
        theMethods();
        theClassesInside();
        noPrivateMethodBearsAPublicName();
        System.out.println(wrong == 0 ? "the face is as due" : wrong + " parts of the face are not as due");
        if (wrong != 0) {
            System.exit(1);
        }
    }
}
