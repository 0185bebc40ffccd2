import java.lang.reflect.Constructor;
import java.lang.reflect.Field;
import java.lang.reflect.Method;
import java.lang.reflect.Modifier;
import java.util.Set;
import java.util.TreeSet;

/** The public face, word by word, and what of ../shared/LANGUAGE.md reflection tells. */
public final class FaceTest {
    private static final String INDEX = " throws IndexOutOfBoundsException";
    private static final String STATE = " throws IndexOutOfBoundsException IllegalStateException";
    private static final String ARGUMENT = " throws IllegalArgumentException";

    private static final String[] FACE = {
        "int addFlight(int) throws IllegalArgumentException IllegalStateException",
        "boolean board(int boolean)" + INDEX,
        "int pass(int)" + ARGUMENT,
        "int time()",
        "int lateralOf(int)" + INDEX,
        "int checkIn(int int)" + STATE,
        "int transfer(int int)" + STATE,
        "int decide(int boolean)" + STATE,
        "int letGo(int)" + STATE,
        "int load(int)" + STATE,
        "int offload(int)" + STATE,
        "int sendOn(int int)" + STATE,
        "int bags()",
        "int placeOf(int)" + INDEX,
        "int placeByScans(int int) throws IndexOutOfBoundsException IllegalArgumentException",
        "int flightOf(int)" + INDEX,
        "int count(int)" + ARGUMENT,
        "int atLateral(int)" + INDEX,
        "int unmatched(int)" + INDEX,
        "int untilClose(int)" + INDEX,
        "int scans()",
        "int bagOfScan(int)" + INDEX,
        "int placeOfScan(int)" + INDEX,
    };

    private static final String[] CONSTANTS = {
        "NONE -1", "SCREEN_1 1", "SCREEN_2 2", "SCREEN_3 3", "HELD 4", "STORE 5", "LOOP 6", "LATERAL 7",
        "LOADED 8", "FLOWN 9", "OFFLOADED 10", "LATE 11",
    };

    public static void main(String[] args) throws IllegalAccessException {
        classIsPublicAndFinal();
        methodsAreThoseOfTheDocument();
        constantsAreThoseOfTheDocument();
        nothingElseIsSeen();
        staticFieldsAreFinal();
        Check.end("FaceTest");
    }

    private static void classIsPublicAndFinal() {
        Check.equal("the modifiers of the class", Modifier.PUBLIC | Modifier.FINAL, BagHall.class.getModifiers());
        Check.isTrue("the class extends Object alone", BagHall.class.getSuperclass() == Object.class);
        Check.equal("its interfaces", 0, BagHall.class.getInterfaces().length);
        Check.equal("its constructors", 1, BagHall.class.getDeclaredConstructors().length);
        Constructor<?> constructor = BagHall.class.getDeclaredConstructors()[0];
        Check.equal("the parameters of its constructor", 0, constructor.getParameterCount());
        Check.equal("the modifiers of its constructor", Modifier.PUBLIC, constructor.getModifiers());
    }

    private static void methodsAreThoseOfTheDocument() {
        Set<String> found = new TreeSet<>();
        for (Method method : BagHall.class.getDeclaredMethods()) {
            if (!Modifier.isPrivate(method.getModifiers())) {
                found.add(told(method));
                Check.equal("the modifiers of " + method.getName(), Modifier.PUBLIC, method.getModifiers());
            }
        }
        Check.equal("the methods", new TreeSet<>(Set.of(FACE)).toString(), found.toString());
    }

    private static String told(Method method) {
        return method.getReturnType().getSimpleName() + " " + method.getName()
                + "(" + names(method.getParameterTypes()) + ")"
                + (method.getExceptionTypes().length == 0 ? "" : " throws " + names(method.getExceptionTypes()));
    }

    private static String names(Class<?>[] types) {
        StringBuilder text = new StringBuilder();
        for (Class<?> type : types) {
            text.append(text.length() == 0 ? "" : " ").append(type.getSimpleName());
        }
        return text.toString();
    }

    private static void constantsAreThoseOfTheDocument() throws IllegalAccessException {
        Set<String> found = new TreeSet<>();
        for (Field field : BagHall.class.getDeclaredFields()) {
            if (!Modifier.isPrivate(field.getModifiers())) {
                Check.equal("the modifiers of " + field.getName(), Modifier.PUBLIC | Modifier.STATIC | Modifier.FINAL, field.getModifiers());
                Check.isTrue(field.getName() + " is an int", field.getType() == int.class);
                found.add(field.getName() + " " + field.getInt(null));
            }
        }
        Check.equal("the constants", new TreeSet<>(Set.of(CONSTANTS)).toString(), found.toString());
    }

    private static void nothingElseIsSeen() {
        Set<String> publicNames = new TreeSet<>();
        for (Method method : BagHall.class.getDeclaredMethods()) {
            if (Modifier.isPublic(method.getModifiers())) {
                publicNames.add(method.getName());
            }
        }
        for (Method method : BagHall.class.getDeclaredMethods()) {
            if (Modifier.isPrivate(method.getModifiers())) {
                Check.isFalse("a private method is named " + method.getName(), publicNames.contains(method.getName()));
                Check.isTrue(method.getName() + " has at most seven parameters", method.getParameterCount() <= 7);
            }
        }
        Check.equal("public classes inside", 0, BagHall.class.getClasses().length);
    }

    private static void staticFieldsAreFinal() {
        int fields = 0;
        for (Field field : BagHall.class.getDeclaredFields()) {
            if (Modifier.isStatic(field.getModifiers())) {
                Check.isTrue(field.getName() + " is final", Modifier.isFinal(field.getModifiers()));
            } else {
                fields++;
            }
        }
        Check.isTrue("the class has at most twenty fields", fields <= 20);
    }
}
