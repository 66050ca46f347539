import java.lang.reflect.Constructor;
import java.lang.reflect.Field;
import java.lang.reflect.Method;
import java.lang.reflect.Modifier;
import java.util.Arrays;
import java.util.Set;
import java.util.TreeSet;

/** The public face is the document's, with its exceptions, and nothing else can be seen from outside. */
final class FaceTest {
    private static final String INDEX = "IndexOutOfBoundsException";
    private static final String ARGUMENT = "IllegalArgumentException";
    private static final String STATE = "IllegalStateException";
    private static final String ELEMENT = "NoSuchElementException";
    private static final Set<String> DUE = new TreeSet<>(Arrays.asList(
        "int feed(int,int,int,int,int)", "boolean end(int)", "int deed() " + ARGUMENT + " UnsupportedOperationException",
        "int law() " + ARGUMENT, "int fault()", "int holds(int) " + INDEX, "int family(int,int) " + INDEX + " " + ELEMENT,
        "int does(int,int,int) " + INDEX + " " + ELEMENT, "int thing(int,int) " + INDEX + " " + ELEMENT,
        "int sell(int,int) " + INDEX + " " + ARGUMENT + " " + STATE, "int buy(int,int) " + INDEX + " " + STATE,
        "int swap(int,int) " + INDEX + " " + ARGUMENT + " " + STATE, "int free(int) " + INDEX + " " + STATE,
        "int leave(int) " + INDEX + " " + STATE, "int fetch(int) " + INDEX + " " + STATE, "int quiet() " + STATE, "int dust()",
        "int hours(int) " + ARGUMENT, "int changes()", "int met(int,int) " + INDEX + " " + ARGUMENT, "int gaps()", "int deal()",
        "int trade()", "int fewest()", "int worth(int)", "int part(int,int) " + INDEX + " " + ARGUMENT, "int corner(int) " + INDEX,
        "int bids(int,int,int) " + INDEX + " " + ARGUMENT, "int who(boolean) " + ARGUMENT, "int common()", "int lovers()",
        "int lesson(int) " + ARGUMENT, "int widows()", "int ahead(int,int) " + ARGUMENT + " " + ELEMENT, "int dusty(int) " + ARGUMENT,
        "int warmest(int) " + ARGUMENT, "int ruin(int) " + INDEX, "int rich()", "int cramped()", "int trial(int,boolean) " + ARGUMENT,
        "int span(int,boolean) " + ARGUMENT, "int led(int,boolean) " + INDEX, "int log(int,int) " + ELEMENT, "int seed(int)",
        "boolean undo()", "void image()", "boolean back()", "int count(int)"));

    public static void main(String[] args) {
        Probe probe = new Probe("FaceTest");
        Set<String> seen = new TreeSet<>();
        Set<String> names = new TreeSet<>();
        for (Method method : ClockShares.class.getDeclaredMethods()) {
            if (Modifier.isPrivate(method.getModifiers())) {
                continue;
            }
            seen.add(told(method));
            names.add(method.getName());
            probe.is(method + " is public", Modifier.isPublic(method.getModifiers()), true);
        }
        for (String due : DUE) {
            probe.is(due + " is there", seen.contains(due), true);
        }
        probe.is("methods in all " + seen, seen.size(), DUE.size());
        constructorsAndFields(probe);
        privateNames(probe, names);
        probe.is("the class is public and final", ClockShares.class.getModifiers(), Modifier.PUBLIC | Modifier.FINAL);
        probe.finish();
    }

    private static String told(Method method) {
        StringBuilder text = new StringBuilder(method.getReturnType().getSimpleName()).append(' ').append(method.getName()).append('(');
        String comma = "";
        for (Class<?> type : method.getParameterTypes()) {
            text.append(comma).append(type.getSimpleName());
            comma = ",";
        }
        text.append(')');
        for (Class<?> type : method.getExceptionTypes()) {
            text.append(' ').append(type.getSimpleName());
        }
        return text.toString();
    }

    private static void constructorsAndFields(Probe probe) {
        Constructor<?>[] constructors = ClockShares.class.getDeclaredConstructors();
        probe.is("constructors", constructors.length, 1);
        probe.is("the constructor is public", Modifier.isPublic(constructors[0].getModifiers()), true);
        probe.is("the constructor takes nothing", constructors[0].getParameterCount(), 0);
        for (Field field : ClockShares.class.getDeclaredFields()) {
            boolean isNone = field.getName().equals("NONE");
            probe.is(field + " is private, or NONE", isNone || Modifier.isPrivate(field.getModifiers()), true);
            probe.is(field + " that is static is final", !Modifier.isStatic(field.getModifiers()) || Modifier.isFinal(field.getModifiers()), true);
        }
    }

    /** No method inside bears the name of a public one. */
    private static void privateNames(Probe probe, Set<String> names) {
        for (Method method : ClockShares.class.getDeclaredMethods()) {
            if (Modifier.isPrivate(method.getModifiers())) {
                probe.is(method + " has a name of its own", names.contains(method.getName()), false);
            }
        }
        Class<?>[] inside = ClockShares.class.getDeclaredClasses();
        probe.is("classes with the outer one are twelve at most", inside.length + 1 <= 12, true);
        for (Class<?> type : inside) {
            probe.is(type + " is static", Modifier.isStatic(type.getModifiers()), true);
            for (Method method : type.getDeclaredMethods()) {
                probe.is(method + " has a name of its own", names.contains(method.getName()), false);
            }
        }
    }
}
