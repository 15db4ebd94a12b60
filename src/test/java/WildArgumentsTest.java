/** Every call with wild arguments: it answers, or throws exactly what its promise names, never the machine's own. */
public final class WildArgumentsTest {
    private static final int[] WILD = {
        Integer.MIN_VALUE, Integer.MIN_VALUE + 1, -1, 0, 1, 2, 3, 20, 50, 100, Integer.MAX_VALUE - 1, Integer.MAX_VALUE,
    };

    private static final String INDEX = " IndexOutOfBoundsException ";
    private static final String ARGUMENT = " IllegalArgumentException ";
    private static final String STATE = " IllegalStateException ";

    public static void main(String[] args) {
        all(new IcePad());
        all(used());
        Check.end();
    }

    private static IcePad used() {
        IcePad x = new IcePad();
        x.weather(-50, 1, 30, 5);
        for (int fluid = 0; fluid < 3; fluid++) {
            x.supply(fluid, 10000);
        }
        for (int i = 0; i < 20; i++) {
            x.aircraft(10 + 3 * i, i, 100 * i);
        }
        x.treat(2, 0, 0, 100, 50);
        x.treat(3, 1, 1, 100, 50);
        x.pass(3);
        x.treat(4, 2, 2, 100, 50);
        return x;
    }

    private static void all(IcePad x) {
        for (int a : WILD) {
            one(x, a);
            for (int b : WILD) {
                two(x, a, b);
                for (int c : WILD) {
                    threeAndMore(x, a, b, c);
                }
            }
        }
    }

    private static void one(IcePad x, int a) {
        may("spray", INDEX, () -> x.spray(a));
        may("permit", ARGUMENT, () -> x.permit(a));
        may("release", ARGUMENT + STATE, () -> x.release(a));
        may("pass", ARGUMENT, () -> x.pass(a));
        may("code", INDEX, () -> x.code(a));
        may("clock", INDEX + STATE, () -> x.clock(a));
        may("whyNot", INDEX, () -> x.whyNot(a));
        may("queue", INDEX, () -> x.queue(a));
        may("sum", ARGUMENT, () -> x.sum(a));
        may("isGood", "", () -> x.isGood());
    }

    private static void two(IcePad x, int a, int b) {
        may("close", ARGUMENT, () -> x.close(a, b));
        may("pilot", INDEX + ARGUMENT, () -> x.pilot(a, b));
        may("supply", INDEX + ARGUMENT + STATE, () -> x.supply(a, b));
        may("thirdOf", INDEX + ARGUMENT, () -> x.thirdOf(a, b));
        may("aircraftOf", INDEX + ARGUMENT, () -> x.aircraftOf(a, b));
    }

    private static void threeAndMore(IcePad x, int a, int b, int c) {
        may("table", INDEX + ARGUMENT, () -> x.table(a, b, c));
        may("aircraft", ARGUMENT + STATE, () -> x.aircraft(a, b, c));
        for (int d : WILD) {
            may("weather", ARGUMENT, () -> x.weather(a, b, c, d));
            may("treat", INDEX + ARGUMENT + STATE, () -> x.treat(a, b, c, d, 75));
            may("treat", INDEX + ARGUMENT + STATE, () -> x.treat(a, b, c, 10, d));
        }
        if (c == 100) {
            may("cancel", INDEX + STATE, () -> x.cancel(a));
        }
    }

    private static void may(String what, String allowed, Check.Call call) {
        String thrown = "";
        try {
            call.run();
        } catch (RuntimeException e) {
            thrown = " " + e.getClass().getSimpleName() + " ";
        }
        Check.is(what + " may throw" + thrown, thrown.isEmpty() || allowed.contains(thrown), true);
    }
}
