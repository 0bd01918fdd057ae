import java.lang.reflect.Constructor;
import java.lang.reflect.Executable;
import java.lang.reflect.Field;
import java.lang.reflect.Method;
import java.lang.reflect.Modifier;
import java.util.TreeSet;

/** "The public face": just the members that the document names, and each object has a state of its own. */
final class FaceTest {
    private static final Check CHECK = new Check("FaceTest");
    private static final String[] METHODS = {
        "int allow(int, boolean) throws IndexOutOfBoundsException",
        "int setPrice(int, int) throws IndexOutOfBoundsException, IllegalArgumentException",
        "int setConstant(int, boolean) throws IllegalArgumentException",
        "int value(long, int) throws IllegalArgumentException",
        "long apply(int, long, long) throws IndexOutOfBoundsException",
        "long compose(long, long)",
        "long inverse(long) throws IllegalStateException",
        "int measure(long, int) throws IndexOutOfBoundsException",
        "boolean is(long, int) throws IndexOutOfBoundsException",
        "int search(int) throws IllegalArgumentException",
        "int entries()",
        "int ofCost(int) throws IllegalArgumentException",
        "long function(int) throws IndexOutOfBoundsException",
        "int entry(int, int) throws IndexOutOfBoundsException",
        "int find(long)",
        "int fit(long, int) throws IllegalArgumentException",
        "int near(long)",
        "int parts(int) throws IndexOutOfBoundsException",
        "double meanCost()",
        "int write(int) throws IndexOutOfBoundsException",
        "int byteAt(int) throws IndexOutOfBoundsException",
        "int feed(int, int, int, int, int) throws IllegalStateException",
        "int trim(int) throws IllegalArgumentException",
        "int read()",
        "long result()",
        "long digest()",
    };

    public static void main(String[] args) {
        checkClass();
        checkMethods();
        checkConstructorsAndFields();
        checkObjectsApart();
        CHECK.finish();
    }

    // "public final class TrickFinder"
    private static void checkClass() {
        Class<?> c = TrickFinder.class;
        CHECK.same("the modifiers of the class", c.getModifiers(), Modifier.PUBLIC | Modifier.FINAL);
        CHECK.isTrue("the class has no package", c.getPackageName().isEmpty());
        CHECK.isTrue("it is a class above Object alone", c.getSuperclass() == Object.class);
        CHECK.same("it implements nothing", c.getInterfaces().length, 0);
        for (Class<?> inside : c.getDeclaredClasses()) {
            int modifiers = inside.getModifiers();
            CHECK.isTrue(inside + " is static", Modifier.isStatic(modifiers));
            CHECK.isFalse(inside + " is seen from outside", Modifier.isPublic(modifiers)
                    || Modifier.isProtected(modifiers));
        }
    }

    // Each row of the face, and no row more.
    private static void checkMethods() {
        TreeSet<String> left = new TreeSet<>();
        for (Method method : TrickFinder.class.getDeclaredMethods()) {
            if (!Modifier.isPrivate(method.getModifiers())) {
                CHECK.same("the modifiers of " + method.getName(), method.getModifiers(), Modifier.PUBLIC);
                left.add(method.getReturnType() + " " + method.getName() + argumentsOf(method));
            }
        }
        for (String wanted : METHODS) {
            CHECK.isTrue("the face has " + wanted, left.remove(wanted));
        }
        CHECK.isTrue("the face has no more, but there is " + left, left.isEmpty());
    }

    private static String argumentsOf(Executable call) {
        return "(" + namesOf(call.getParameterTypes()) + ")"
                + (call.getExceptionTypes().length == 0 ? "" : " throws " + namesOf(call.getExceptionTypes()));
    }

    private static String namesOf(Class<?>[] types) {
        StringBuilder names = new StringBuilder();
        for (Class<?> type : types) {
            names.append(names.length() == 0 ? "" : ", ").append(type.getSimpleName());
        }
        return names.toString();
    }

    // "public TrickFinder();", and no other member that is not private
    private static void checkConstructorsAndFields() {
        Constructor<?>[] constructors = TrickFinder.class.getDeclaredConstructors();
        CHECK.same("constructors", constructors.length, 1);
        CHECK.same("the modifiers of the constructor", constructors[0].getModifiers(), Modifier.PUBLIC);
        CHECK.isTrue("the constructor takes and throws nothing", argumentsOf(constructors[0]).equals("()"));
        for (Field field : TrickFinder.class.getDeclaredFields()) {
            CHECK.isTrue(field + " is private", Modifier.isPrivate(field.getModifiers()));
            CHECK.isTrue(field + " is final", Modifier.isFinal(field.getModifiers()));
        }
    }

    // "TrickFinder()": what is done with one object is not seen from another.
    private static void checkObjectsApart() {
        TrickFinder untouched = new TrickFinder();
        TrickFinder used = Finders.inUse();
        long first = untouched.digest();
        long usedBefore = used.digest();
        TrickFinder full = Finders.full();
        CHECK.same("a new object beside a full one", untouched.digest(), first);
        CHECK.same("a used object beside a full one", used.digest(), usedBefore);
        CHECK.same("an object made behind them", new TrickFinder().digest(), first);
        long fullBefore = full.digest();
        CHECK.same("search(1) of the new object", untouched.search(1), 7);
        CHECK.same("read() of its empty tape", untouched.read(), 0);
        CHECK.same("a full object beside a search", full.digest(), fullBefore);
        CHECK.same("a used object's function", used.function(2), ~Finders.X);
        CHECK.isRefused("byteAt(0) of the new object's paper", untouched, IndexOutOfBoundsException.class,
                () -> untouched.byteAt(0));
    }
}
