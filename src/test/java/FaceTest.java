import java.lang.reflect.Constructor;
import java.lang.reflect.Field;
import java.lang.reflect.Method;
import java.lang.reflect.Modifier;
import java.util.Arrays;
import java.util.TreeSet;

/** The class shows the document's face, and nothing besides. */
public final class FaceTest {
    private static final String[] METHODS = {
        "aircraft(int,int,int)int IllegalArgument IllegalState",
        "aircraftOf(int,int)int IndexOutOfBounds IllegalArgument",
        "cancel(int)int IndexOutOfBounds IllegalState",
        "clock(int)double IndexOutOfBounds IllegalState",
        "close(int,int)int IllegalArgument",
        "code(int)int IndexOutOfBounds",
        "isGood()boolean",
        "pass(int)int IllegalArgument",
        "permit(int)int IllegalArgument",
        "pilot(int,int)int IndexOutOfBounds IllegalArgument",
        "queue(int)int IndexOutOfBounds",
        "release(int)int IllegalArgument IllegalState",
        "spray(int)int IndexOutOfBounds",
        "sum(int)int IllegalArgument",
        "supply(int,int)int IndexOutOfBounds IllegalArgument IllegalState",
        "table(int,int,int)int IndexOutOfBounds IllegalArgument",
        "thirdOf(int,int)int IndexOutOfBounds IllegalArgument",
        "treat(int,int,int,int,int)int IndexOutOfBounds IllegalArgument IllegalState",
        "weather(int,int,int,int)void IllegalArgument",
        "whyNot(int)int IndexOutOfBounds",
    };

    public static void main(String[] args) {
        methods();
        fields();
        constructors();
        constants();
        Check.end();
    }

    private static void methods() {
        TreeSet<String> open = new TreeSet<>();
        for (Method method : IcePad.class.getDeclaredMethods()) {
            if (!Modifier.isPrivate(method.getModifiers())) {
                open.add(textOf(method));
            }
        }
        Check.same("methods", open.toString(), new TreeSet<>(Arrays.asList(METHODS)).toString());
    }

    private static String textOf(Method method) {
        StringBuilder text = new StringBuilder(method.getName()).append('(');
        for (Class<?> type : method.getParameterTypes()) {
            text.append(text.charAt(text.length() - 1) == '(' ? "" : ",").append(type.getName());
        }
        text.append(')').append(method.getReturnType().getName());
        for (Class<?> thrown : method.getExceptionTypes()) {
            text.append(' ').append(thrown.getSimpleName().replace("Exception", ""));
        }
        return Modifier.isPublic(method.getModifiers()) ? text.toString() : "not public: " + text;
    }

    private static void fields() {
        TreeSet<String> open = new TreeSet<>();
        for (Field field : IcePad.class.getDeclaredFields()) {
            if (!Modifier.isPrivate(field.getModifiers())) {
                open.add(Modifier.toString(field.getModifiers()) + " " + field.getType() + " " + field.getName());
            }
        }
        TreeSet<String> due = new TreeSet<>();
        for (String name : new String[] {"NONE", "WAITS", "ON_PAD", "CLEAN", "GONE", "CANCELLED"}) {
            due.add("public static final int " + name);
        }
        Check.same("fields", open.toString(), due.toString());
    }

    private static void constructors() {
        Constructor<?>[] all = IcePad.class.getDeclaredConstructors();
        Check.is("constructors", all.length, 1);
        Check.same("the constructor", all[0].toString(), "public IcePad()");
        Check.same("the class", Modifier.toString(IcePad.class.getModifiers()), "public final");
    }

    private static void constants() {
        Check.is("NONE", IcePad.NONE, -1);
        Check.is("WAITS", IcePad.WAITS, 0);
        Check.is("ON_PAD", IcePad.ON_PAD, 1);
        Check.is("CLEAN", IcePad.CLEAN, 2);
        Check.is("GONE", IcePad.GONE, 3);
        Check.is("CANCELLED", IcePad.CANCELLED, 4);
    }
}
