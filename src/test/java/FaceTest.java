import java.lang.reflect.Constructor;
import java.lang.reflect.Field;
import java.lang.reflect.Method;
import java.lang.reflect.Modifier;
import java.util.Arrays;
import java.util.TreeSet;

/** The public face is the document's, and nothing else of the class can be seen from outside. */
public final class FaceTest extends Numbers {
    private static final String[] METHODS = {
        "act(int,int,int,int,int,int)", "asks(int,int)", "began(int,int)", "below(int,int)", "cls(int,boolean)",
        "differs(int,int)", "face(boolean)", "failed(int,int)", "field(int,int,boolean,int)",
        "foretell(int,int,int,int,int)", "found(int,int,boolean)", "gone()", "many(int,int)", "method(int,int)",
        "round(int)", "spent(int,int)", "state(int,int)", "tape(int,int)", "told(int,int)",
        "touch(int,int,int,int,int)", "under(int,int)", "value(int,int,int)", "world()"};

    private FaceTest() {
    }

    public static void main(String[] args) {
        constants();
        methods();
        otherMembers(StartBench.class);
        for (Class<?> inside : StartBench.class.getDeclaredClasses()) {
            insideClass(inside);
        }
        Due.end();
    }

    private static void constants() {
        due("NONE", StartBench.NONE, NONE);
        due("UNKNOWN", StartBench.UNKNOWN, UNKNOWN);
        due("OUTSIDE", StartBench.OUTSIDE, OUTSIDE);
        due("STATE", StartBench.STATE, STATE);
        due("FULL", StartBench.FULL, FULL);
        due("NO", StartBench.NO, NO);
    }

    private static void methods() {
        TreeSet<String> told = new TreeSet<>(Arrays.asList(METHODS));
        TreeSet<String> seen = new TreeSet<>();
        for (Method one : StartBench.class.getDeclaredMethods()) {
            if (Modifier.isPublic(one.getModifiers())) {
                seen.add(faceOf(one));
                Due.isTrue(one + " answers an int", one.getReturnType() == int.class);
                Due.isTrue(one + " is no static one", !Modifier.isStatic(one.getModifiers()));
            } else {
                Due.isTrue(one + " is private", Modifier.isPrivate(one.getModifiers()));
                Due.isTrue(one + " bears no public name", !isPublicName(one.getName()));
            }
        }
        Due.isTrue("the public methods are those of the document: " + seen, seen.equals(told));
    }

    private static String faceOf(Method one) {
        StringBuilder text = new StringBuilder(one.getName()).append('(');
        for (Class<?> type : one.getParameterTypes()) {
            text.append(text.charAt(text.length() - 1) == '(' ? "" : ",").append(type.getName());
        }
        return text.append(')').toString();
    }

    private static boolean isPublicName(String name) {
        for (String method : METHODS) {
            if (method.startsWith(name + "(")) {
                return true;
            }
        }
        return false;
    }

    private static void otherMembers(Class<?> bench) {
        Due.isTrue("final", Modifier.isFinal(bench.getModifiers()));
        Due.isTrue("public", Modifier.isPublic(bench.getModifiers()));
        due("constructors", bench.getDeclaredConstructors().length, 1);
        for (Constructor<?> one : bench.getDeclaredConstructors()) {
            Due.isTrue("a public constructor", Modifier.isPublic(one.getModifiers()));
            due("its parameters", one.getParameterCount(), 0);
        }
        int visible = 0;
        for (Field one : bench.getDeclaredFields()) {
            if (!Modifier.isPrivate(one.getModifiers())) {
                visible++;
            }
            staticIsFinal(one);
        }
        due("fields that can be seen", visible, 6);
    }

    private static void insideClass(Class<?> inside) {
        Due.isTrue(inside + " is static", Modifier.isStatic(inside.getModifiers()));
        Due.isTrue(inside + " isn't public", !Modifier.isPublic(inside.getModifiers()));
        for (Field one : inside.getDeclaredFields()) {
            staticIsFinal(one);
        }
        for (Method one : inside.getDeclaredMethods()) {
            Due.isTrue(one + " bears no public name", !isPublicName(one.getName()));
            Due.isTrue(one + " takes seven at most", one.getParameterCount() <= 7);
        }
    }

    private static void staticIsFinal(Field one) {
        int signs = one.getModifiers();
        Due.isTrue(one + " is final if static", !Modifier.isStatic(signs) || Modifier.isFinal(signs));
    }
}
