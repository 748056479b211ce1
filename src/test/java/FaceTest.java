import java.lang.reflect.Constructor;
import java.lang.reflect.Field;
import java.lang.reflect.Method;
import java.lang.reflect.Modifier;
import java.util.Arrays;
import java.util.Set;
import java.util.TreeSet;
import java.util.stream.Collectors;

/** The public face: the class's head, its constants, its constructor and its methods, and nothing else. */
public final class FaceTest {
    private static final String I = "IndexOutOfBoundsException";
    private static final String A = "IllegalArgumentException";
    private static final String S = "IllegalStateException";

    private static final Set<String> METHODS = Set.of(
            "int tariff(int,int,int) " + I + "," + A,
            "boolean link(int,int,int,int) " + I + "," + A,
            "int unlink(int,int) " + I + "," + S,
            "int number(int,int,int) " + I + "," + A + "," + S,
            "int carryOver(int,int) " + I + "," + A + "," + S,
            "int home(int,int) " + I,
            "int topUp(int,int,int) " + I + "," + A + "," + S,
            "int balance(int) " + I,
            "int bundle(int) " + I,
            "int call(int,int) " + I + "," + A + "," + S,
            "int hangUp(int) " + I + "," + S,
            "int pass(int) " + A,
            "int state(int) " + I,
            "int minutes(int) " + I,
            "int moved(int) " + I,
            "int way(int,int) " + I,
            "int cost(int,int) " + I,
            "int best(int,int,int) " + I,
            "boolean isBarred(int,int) " + I,
            "long debt(int,int) " + I,
            "long charged(int,int) " + I,
            "long position(int) " + I,
            "long settle(int,int) " + I + "," + S);

    public static void main(String[] args) {
        head();
        constants();
        constructor();
        methods();
        Check.end();
    }

    private static void head() {
        int modifiers = RoamLedger.class.getModifiers();
        Check.yes("the class is public and final", Modifier.isPublic(modifiers) && Modifier.isFinal(modifiers));
        Check.equal("interfaces", 0, RoamLedger.class.getInterfaces().length);
        for (Class<?> inside : RoamLedger.class.getDeclaredClasses()) {
            int own = inside.getModifiers();
            Check.yes(inside + " is static", Modifier.isStatic(own));
            Check.no(inside + " is seen outside", Modifier.isPublic(own) || Modifier.isProtected(own));
        }
    }

    private static void constants() {
        Check.equal("NONE", -1, RoamLedger.NONE);
        Check.equal("RUNNING", 0, RoamLedger.RUNNING);
        Check.equal("ENDED", 1, RoamLedger.ENDED);
        Check.equal("CUT", 2, RoamLedger.CUT);
        Set<String> seen = new TreeSet<>();
        for (Field field : RoamLedger.class.getDeclaredFields()) {
            int modifiers = field.getModifiers();
            if (!Modifier.isPrivate(modifiers)) {
                seen.add(Modifier.toString(modifiers) + " " + field.getType() + " " + field.getName());
            }
            if (Modifier.isStatic(modifiers)) {
                Check.yes(field + " is final", Modifier.isFinal(modifiers));
            }
        }
        Set<String> due = new TreeSet<>();
        for (String name : new String[] {"NONE", "RUNNING", "ENDED", "CUT"}) {
            due.add("public static final int " + name);
        }
        Check.yes("the constants are " + due + ", seen are " + seen, seen.equals(due));
    }

    private static void constructor() {
        Constructor<?>[] all = RoamLedger.class.getDeclaredConstructors();
        Check.equal("constructors", 1, all.length);
        Check.equal("parameters of the constructor", 0, all[0].getParameterCount());
        Check.yes("the constructor is public", Modifier.isPublic(all[0].getModifiers()));
        Check.equal("exceptions of the constructor", 0, all[0].getExceptionTypes().length);
    }

    private static void methods() {
        Set<String> seen = new TreeSet<>();
        Set<String> publicNames = new TreeSet<>();
        Set<String> privateNames = new TreeSet<>();
        for (Method method : RoamLedger.class.getDeclaredMethods()) {
            if (Modifier.isPrivate(method.getModifiers())) {
                privateNames.add(method.getName());
            } else {
                seen.add(told(method));
                publicNames.add(method.getName());
                Check.equal("modifiers of " + method, Modifier.PUBLIC, method.getModifiers());
            }
        }
        Check.yes("the methods are as the document has them: " + seen, seen.equals(METHODS));
        privateNames.retainAll(publicNames);
        Check.yes("private methods with a public name: " + privateNames, privateNames.isEmpty());
    }

    private static String told(Method method) {
        return method.getReturnType() + " " + method.getName() + "(" + names(method.getParameterTypes()) + ") "
                + names(method.getExceptionTypes());
    }

    private static String names(Class<?>[] types) {
        return Arrays.stream(types).map(Class::getSimpleName).collect(Collectors.joining(","));
    }
}
