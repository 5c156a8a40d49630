import java.lang.reflect.Constructor;
import java.lang.reflect.Field;
import java.lang.reflect.Method;
import java.lang.reflect.Modifier;
import java.util.Set;
import java.util.TreeSet;

/** The public face: what the document names is there, and nothing else is. */
public final class FaceTest {
    private static final String E = "java.lang.Illegal";
    private static final String ARGUMENT = E + "ArgumentException ";
    private static final String STATE = E + "StateException ";
    private static final String INDEX = "java.lang.IndexOutOfBoundsException ";
    private static final String[] METHODS = {
        "int begin(int int int ) " + ARGUMENT + STATE, "int surrender(int ) " + INDEX + STATE,
        "int setRates(int int ) " + ARGUMENT, "int setScale(int int int ) " + ARGUMENT,
        "long endow(int ) " + ARGUMENT, "int run(int ) " + ARGUMENT + STATE, "int year() ", "int policies() ",
        "int stateOf(int ) " + INDEX, "int bonuses(int ) " + INDEX, "int shareOf(int ) " + INDEX,
        "int shareAlone(int ) " + INDEX, "int generation(int int ) " + ARGUMENT, "int paid(int ) " + INDEX,
        "int worth(int ) " + INDEX + STATE, "int lastRatio(int ) " + ARGUMENT, "long estate() ",
        "long sharesAndEstate() ", "long assets() ", "int shortfall() "};

    public static void main(String[] args) {
        Class<?> face = ProfitsOffice.class;
        Check.isTrue("the class is public and final",
                Modifier.isPublic(face.getModifiers()) && Modifier.isFinal(face.getModifiers()));
        Check.isTrue("it extends and implements nothing",
                face.getSuperclass() == Object.class && face.getInterfaces().length == 0);
        constructors(face);
        fields(face);
        methods(face);
        for (Class<?> inside : face.getDeclaredClasses()) {
            Check.isTrue(inside + " is static", Modifier.isStatic(inside.getModifiers()));
        }
        Check.end("FaceTest");
    }

    private static void constructors(Class<?> face) {
        Constructor<?>[] all = face.getDeclaredConstructors();
        Check.isTrue("one public constructor without arguments", all.length == 1
                && Modifier.isPublic(all[0].getModifiers()) && all[0].getParameterCount() == 0);
    }

    private static void fields(Class<?> face) {
        Set<String> due = Set.of("NONE", "IN_FORCE", "MATURED", "SURRENDERED");
        Set<String> got = new TreeSet<>();
        for (Field field : face.getDeclaredFields()) {
            int modifiers = field.getModifiers();
            if (!Modifier.isPrivate(modifiers)) {
                got.add(field.getName());
                Check.isTrue(field + " is a constant of int", Modifier.isPublic(modifiers)
                        && Modifier.isStatic(modifiers) && Modifier.isFinal(modifiers)
                        && field.getType() == int.class);
            }
            Check.isTrue(field + " is no static state",
                    !Modifier.isStatic(modifiers) || Modifier.isFinal(modifiers));
        }
        Check.isTrue("the constants are " + due + ", not " + got, got.equals(due));
    }

    private static void methods(Class<?> face) {
        Set<String> due = new TreeSet<>(Set.of(METHODS));
        Set<String> got = new TreeSet<>();
        Set<String> publicNames = new TreeSet<>();
        Set<String> privateNames = new TreeSet<>();
        for (Method method : face.getDeclaredMethods()) {
            boolean isPrivate = Modifier.isPrivate(method.getModifiers());
            (isPrivate ? privateNames : publicNames).add(method.getName());
            if (!isPrivate) {
                got.add(signature(method));
                Check.isTrue(method + " is public and of the object", Modifier.isPublic(method.getModifiers())
                        && !Modifier.isStatic(method.getModifiers()));
            }
        }
        Check.isTrue("the methods are\n" + due + "\nnot\n" + got, got.equals(due));
        for (Class<?> inside : face.getDeclaredClasses()) {
            for (Method method : inside.getDeclaredMethods()) {
                privateNames.add(method.getName());
            }
        }
        privateNames.retainAll(publicNames);
        Check.isTrue("private methods bear names of public ones: " + privateNames, privateNames.isEmpty());
    }

    private static String signature(Method method) {
        StringBuilder text = new StringBuilder();
        text.append(method.getReturnType()).append(' ').append(method.getName()).append('(');
        for (Class<?> type : method.getParameterTypes()) {
            text.append(type).append(' ');
        }
        text.append(") ");
        for (Class<?> type : method.getExceptionTypes()) {
            text.append(type.getName()).append(' ');
        }
        return text.toString();
    }
}
