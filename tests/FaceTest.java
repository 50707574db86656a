import java.lang.reflect.Constructor;
import java.lang.reflect.Executable;
import java.lang.reflect.Field;
import java.lang.reflect.Method;
import java.lang.reflect.Modifier;
import java.util.Set;
import java.util.TreeSet;

/** The public face is that of the document, and nothing else can be seen from outside. */
public final class FaceTest {
    private static final String[] METHODS = {
        "int append(int,int,int,int,int) throws IllegalStateException",
        "int load(int) throws IndexOutOfBoundsException,IllegalArgumentException",
        "int errorKind()", "int errorOffset()", "int year()", "int month()", "int dayOfMonth()", "int seed()",
        "int nextDraw()", "int candles()", "int cakes(int) throws IllegalArgumentException", "int mostWantedCake()",
        "int gardenCount()", "int seatsOf(int) throws IndexOutOfBoundsException",
        "int childrenOf(int) throws IndexOutOfBoundsException",
        "int partyIn(int,int,int) throws IndexOutOfBoundsException,IllegalArgumentException",
        "int childCount()", "int cakeOf(int) throws IndexOutOfBoundsException",
        "int breathOf(int) throws IndexOutOfBoundsException", "int ageOf(int) throws IndexOutOfBoundsException",
        "int gardenOf(int) throws IndexOutOfBoundsException", "int birthdayOf(int) throws IndexOutOfBoundsException",
        "int daysUntilBirthday(int) throws IndexOutOfBoundsException",
        "int partiesOf(int) throws IndexOutOfBoundsException", "int wishesOf(int) throws IndexOutOfBoundsException",
        "int strengthOf(int) throws IndexOutOfBoundsException", "int nextChild()",
        "int childrenOn(int,int) throws IllegalArgumentException", "int differentDates()",
        "int dateAt(int) throws IndexOutOfBoundsException", "int busiestMonth()",
        "int obstacle(int,int,int,int) throws IndexOutOfBoundsException,IllegalArgumentException",
        "int freeGarden(int,int,int) throws IndexOutOfBoundsException,IllegalArgumentException",
        "int drawsNeeded(int) throws IndexOutOfBoundsException",
        "int candlesAfter(int) throws IllegalArgumentException",
        "int wishesAfter(int,int) throws IndexOutOfBoundsException,IllegalArgumentException",
        "int heldParties()", "int failedParties()", "int clashes()", "int candleDifference()",
        "double meanAge()", "float wishShare()",
        "int advance(int) throws IllegalArgumentException,IllegalStateException",
        "int draw(int) throws IndexOutOfBoundsException,IllegalStateException",
        "int setBirthday(int,int,int) throws IndexOutOfBoundsException,IllegalArgumentException,IllegalStateException",
        "int forgetBirthday(int) throws IndexOutOfBoundsException",
        "int moveTo(int,int) throws IndexOutOfBoundsException,IllegalStateException",
        "int buyCandles(int) throws IllegalArgumentException,IllegalStateException",
        "int bakeCakes(int,int) throws IllegalArgumentException,IllegalStateException",
        "int restore(int) throws IndexOutOfBoundsException,IllegalStateException",
        "int undo() throws IllegalStateException", "int save(int) throws IndexOutOfBoundsException",
        "int writeChild(int) throws IndexOutOfBoundsException", "int writeDate()",
        "int outputByte(int) throws IndexOutOfBoundsException",
    };

    private static int wrong;

    public static void main(String[] args) {
        Class<?> face = InventedBirthdays.class;
        check(Modifier.isPublic(face.getModifiers()) && Modifier.isFinal(face.getModifiers()), "the class is public and final");
        check(face.getSuperclass() == Object.class && face.getInterfaces().length == 0, "the class extends nothing");
        check(InventedBirthdays.NONE == -1, "NONE is -1");
        theMethods(face);
        theConstructors(face);
        theFields(face);
        theClassesInside(face);
        System.out.println(METHODS.length + " methods of the face, " + wrong + " faults");
        if (wrong != 0) {
            System.exit(1);
        }
    }

    private static void theMethods(Class<?> face) {
        Set<String> due = new TreeSet<>(Set.of(METHODS));
        Set<String> names = new TreeSet<>();
        for (String method : METHODS) {
            names.add(method.substring(method.indexOf(' ') + 1, method.indexOf('(')));
        }
        for (Method method : face.getDeclaredMethods()) {
            if (Modifier.isPrivate(method.getModifiers())) {
                check(!names.contains(method.getName()), "no private method is called " + method.getName());
            } else {
                check(due.remove(signature(method)), "the face has " + signature(method));
                check(method.getModifiers() == Modifier.PUBLIC, method.getName() + " is public and nothing else");
            }
        }
        check(due.isEmpty(), "missing: " + due);
    }

    private static String signature(Method method) {
        String text = method.getReturnType() + " " + method.getName() + "(" + names(method.getParameterTypes()) + ")";
        return method.getExceptionTypes().length == 0 ? text : text + " throws " + exceptions(method);
    }

    private static String exceptions(Executable method) {
        return names(method.getExceptionTypes());
    }

    private static String names(Class<?>[] types) {
        StringBuilder text = new StringBuilder();
        for (Class<?> type : types) {
            text.append(text.length() == 0 ? "" : ",").append(type.getSimpleName());
        }
        return text.toString();
    }

    private static void theConstructors(Class<?> face) {
        Constructor<?>[] constructors = face.getDeclaredConstructors();
        check(constructors.length == 1, "there is one constructor");
        check(constructors[0].getModifiers() == Modifier.PUBLIC && constructors[0].getParameterCount() == 0, "it is public, without parameters");
    }

    private static void theFields(Class<?> face) {
        for (Field field : face.getDeclaredFields()) {
            boolean open = field.getName().equals("NONE");
            check(open ? Modifier.isPublic(field.getModifiers()) : Modifier.isPrivate(field.getModifiers()), "the access of " + field.getName());
        }
    }

    private static void theClassesInside(Class<?> face) {
        int count = 1;
        for (Class<?> inside : face.getDeclaredClasses()) {
            count++;
            int modifiers = inside.getModifiers();
            check(Modifier.isStatic(modifiers) && !Modifier.isPublic(modifiers) && !Modifier.isProtected(modifiers), "the access of " + inside);
            noState(inside);
        }
        noState(face);
        check(count <= 12, "at most twelve classes");
    }

    private static void noState(Class<?> type) {
        int fields = 0;
        for (Field field : type.getDeclaredFields()) {
            if (Modifier.isStatic(field.getModifiers())) {
                check(Modifier.isFinal(field.getModifiers()) && (field.getType() == int.class || field.getType() == String.class), "static " + field);
            } else {
                fields++;
            }
        }
        check(fields <= 20, "at most twenty fields in " + type);
    }

    private static void check(boolean condition, String what) {
        if (!condition) {
            wrong++;
            System.out.println("not so: " + what);
        }
    }
}
