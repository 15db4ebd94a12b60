import java.lang.reflect.InvocationTargetException;
import java.lang.reflect.Method;
import java.lang.reflect.Modifier;
import java.util.Arrays;
import java.util.Map;
import java.util.TreeMap;
import java.util.TreeSet;

/** All promises together: in long runs of all calls, each answer is that of a second reading of the document. */
public final class SecondReadingTest {
    private static final int RUNS = 600;
    private static final int CALLS = 512;

    private static final Map<String, Method> CALLS_OF_ICE_PAD = callsOf(IcePad.class);
    private static final Map<String, Method> CALLS_OF_READING = callsOf(SecondReading.class);

    /** What runs must have come to, so that they are worth something: a call, and an answer to it. */
    private static final String[] MUST_BE_SEEN = {
        "aircraftOf state 0", "aircraftOf state 1", "aircraftOf state 2", "aircraftOf state 3", "aircraftOf state 4",
        "cancel 0", "cancel 1", "cancel 2", "cancel throws IllegalStateException",
        "code 0", "code 1", "code 2", "code 3", "code 4", "code 5", "code 6",
        "cover 0", "cover 1", "cover 2", "cover 3", "depth 0", "depth 5000", "sprayed 0", "sprayed 1",
        "isGood false", "isGood true", "queue -1", "queue 0", "queue 19",
        "whyNot 0", "whyNot 1", "whyNot 2", "whyNot 3", "whyNot 4", "whyNot 5",
        "aircraft throws IllegalStateException", "clock throws IllegalStateException", "clock below 0",
        "release throws IllegalStateException", "release 500", "supply throws IllegalStateException",
        "treat throws IllegalStateException", "treat throws IllegalArgumentException",
        "treat throws IndexOutOfBoundsException", "waits again",
    };

    private static final TreeSet<String> SEEN = new TreeSet<>();

    private final Numbers numbers;
    private final IcePad airport = new IcePad();
    private final SecondReading reading = new SecondReading();
    private final boolean cold;
    private final int minutesAtOnce;
    private final int weatherOneIn;
    private final StringBuilder told = new StringBuilder();
    private int calls = 0;
    private int aircraft = 0;
    private boolean same = true;

    private SecondReadingTest(long seed) {
        numbers = new Numbers(seed);
        cold = oneIn(2);
        int[] lengths = {2, 6, 40, 250};
        minutesAtOnce = lengths[from(0, lengths.length - 1)];
        weatherOneIn = from(1, 12);
    }

    public static void main(String[] args) {
        boolean same = true;
        for (int seed = 1; seed <= RUNS && same; seed++) {
            same = new SecondReadingTest(seed).run();
        }
        if (same) {
            runsCameToAll();
        }
        Check.end();
    }

    private static void runsCameToAll() {
        for (String due : MUST_BE_SEEN) {
            Check.is("the runs come to: " + due, SEEN.contains(due), true);
        }
    }

    private static Map<String, Method> callsOf(Class<?> type) {
        Map<String, Method> calls = new TreeMap<>();
        for (Method call : IcePad.class.getDeclaredMethods()) {
            if (Modifier.isPublic(call.getModifiers())) {
                try {
                    calls.put(call.getName(), type.getMethod(call.getName(), call.getParameterTypes()));
                } catch (NoSuchMethodException e) {
                    throw new IllegalStateException(e);
                }
            }
        }
        return calls;
    }

    // ---- a run

    /** Returns whether all answers were those of the reading; a run ends with the first that was not. */
    private boolean run() {
        supplyAtFirst();
        while (calls < CALLS && same) {
            next();
        }
        return same;
    }

    /** Calls both, if the run goes on; returns what is due, or nothing. */
    private String call(String name, Integer... arguments) {
        if (calls == CALLS || !same) {
            return "";
        }
        calls++;
        String got = answer(CALLS_OF_ICE_PAD.get(name), airport, arguments);
        String due = answer(CALLS_OF_READING.get(name), reading, arguments);
        told.append(name).append(Arrays.toString(arguments)).append(' ').append(due).append("; ");
        same = got.equals(due);
        Check.same(same ? name : told.toString(), got, due);
        SEEN.add(name + " " + due);
        return due;
    }

    private static String answer(Method call, Object object, Integer... arguments) {
        try {
            return String.valueOf(call.invoke(object, (Object[]) arguments));
        } catch (InvocationTargetException e) {
            return "throws " + e.getCause().getClass().getSimpleName();
        } catch (IllegalAccessException e) {
            throw new IllegalStateException(e);
        }
    }

    // ---- what is called

    private int from(int low, int high) {
        return numbers.from(low, high);
    }

    private boolean oneIn(int many) {
        return from(1, many) == 1;
    }

    /** Mostly in the range, often at its ends, seldom just outside. */
    private int near(int low, int high) {
        if (oneIn(40)) {
            return oneIn(2) ? low - 1 : high + 1;
        }
        if (oneIn(8)) {
            return oneIn(2) ? low : high;
        }
        return from(low, high);
    }

    private void supplyAtFirst() {
        for (int fluid = 0; fluid < 3; fluid++) {
            for (int i = from(0, 3); i > 0; i--) {
                call("supply", fluid, 10000);
            }
        }
    }

    private void next() {
        if (oneIn(6 * weatherOneIn)) {
            weather();
        }
        switch (from(0, 11)) {
            case 0:
            case 1:
            case 2:
                call("pass", oneIn(30) ? near(1, 500) : from(1, minutesAtOnce));
                break;
            case 3:
                runway();
                break;
            case 4:
                fluids();
                break;
            case 5:
                aircraft();
                break;
            case 6:
            case 7:
                treat();
                break;
            case 8:
                river();
                break;
            default:
                ask();
        }
    }

    private void weather() {
        int temperature = cold ? from(-120, 5) : from(-40, 60);
        int[] edges = {-400, -101, -100, -31, -30, -1, 0, 20, 21, 400};
        if (oneIn(3)) {
            temperature = edges[from(0, edges.length - 1)];
        }
        call("weather", oneIn(30) ? near(-400, 400) : temperature, near(0, 3), near(0, 30),
                oneIn(5) ? near(0, 60) : from(0, 22));
    }

    private void runway() {
        switch (from(0, 3)) {
            case 0:
                call("spray", near(0, 2));
                break;
            case 1:
                call("close", oneIn(20) ? near(1, 500) : from(1, 10), near(0, 11));
                break;
            default:
                if (oneIn(3)) {
                    call("pilot", near(0, 2), near(0, 6));
                }
        }
    }

    private void fluids() {
        if (oneIn(3)) {
            call("table", near(0, 2), near(1, 3), oneIn(4) ? near(1, 1000) : from(1, 60));
        } else if (oneIn(12)) {
            call("cancel", near(0, 19));
        } else {
            call("supply", near(0, 2), near(1, 10000));
        }
    }

    private void aircraft() {
        String answer = call("aircraft", near(10, 80), oneIn(9) ? near(0, 2000) : from(0, 60),
                oneIn(2) ? near(0, 2000) : from(100, 2000));
        if (answer.matches("[0-9]+")) {
            aircraft++;
        }
    }

    private void treat() {
        int strength = oneIn(25) ? from(0, 125) : 25 * from(2, 4);
        call("treat", anAircraft(), near(0, 2), near(0, 2), oneIn(3) ? near(10, 2000) : from(10, 400), strength);
    }

    private int anAircraft() {
        return near(0, Math.max(0, aircraft - 1));
    }

    private void river() {
        if (oneIn(8)) {
            call("permit", near(0, oneIn(2) ? 100000 : 800));
        } else {
            call("release", oneIn(6) ? near(1, 100000) : from(1, 300));
        }
    }

    private void ask() {
        int asked = anAircraft();
        int third = near(0, 2);
        switch (from(0, 8)) {
            case 0:
                call("code", third);
                break;
            case 1:
                askThird(third, near(0, 3));
                break;
            case 2:
                call("isGood");
                break;
            case 3:
                askAircraft(asked, near(0, 4));
                break;
            case 4:
                if (call("clock", asked).startsWith("-")) {
                    SEEN.add("clock below 0");
                }
                break;
            case 5:
                call("whyNot", asked);
                break;
            case 6:
                call("queue", oneIn(2) ? 0 : near(0, 20));
                break;
            default:
                call("sum", near(0, 6));
        }
    }

    private void askThird(int third, int what) {
        String[] names = {"cover ", "depth ", "sprayed ", "lying "};
        String answer = call("thirdOf", third, what);
        if (what >= 0 && what < names.length) {
            SEEN.add(names[what] + answer);
        }
    }

    private void askAircraft(int asked, int what) {
        String answer = call("aircraftOf", asked, what);
        if (what == 0) {
            SEEN.add("aircraftOf state " + answer);
        }
        if (answer.equals("0") && what == 0 && call("aircraftOf", asked, 2).matches("[1-9][0-9]*")) {
            SEEN.add("waits again");
        }
    }
}
