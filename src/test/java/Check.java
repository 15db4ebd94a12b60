/** What the tests share: comparing answers, and calls that must be refused without a trace. */
final class Check {
    private static final Class<?> INDEX = IndexOutOfBoundsException.class;
    private static final Class<?> ARGUMENT = IllegalArgumentException.class;
    private static final Class<?> STATE = IllegalStateException.class;

    private static int checks = 0;
    private static int wrong = 0;

    interface Call {
        void run();
    }

    private Check() {
    }

    static void is(String what, long got, long due) {
        same(what, Long.toString(got), Long.toString(due));
    }

    static void is(String what, double got, double due) {
        same(what, Double.toString(got), Double.toString(due));
    }

    static void is(String what, boolean got, boolean due) {
        same(what, Boolean.toString(got), Boolean.toString(due));
    }

    static void same(String what, String got, String due) {
        checks++;
        if (!got.equals(due)) {
            wrong++;
            System.out.println(what + " answered " + got + ", due is " + due);
        }
    }

    /** The call must throw IndexOutOfBoundsException, and change nothing that can be asked. */
    static void noIndex(String what, IcePad x, Call call) {
        refused(what, x, INDEX, call);
    }

    /** The call must throw IllegalArgumentException, and change nothing that can be asked. */
    static void noArgument(String what, IcePad x, Call call) {
        refused(what, x, ARGUMENT, call);
    }

    /** The call must throw IllegalStateException, and change nothing that can be asked. */
    static void notNow(String what, IcePad x, Call call) {
        refused(what, x, STATE, call);
    }

    private static void refused(String what, IcePad x, Class<?> due, Call call) {
        String before = pictureOf(x);
        String thrown = "nothing";
        try {
            call.run();
        } catch (RuntimeException e) {
            thrown = e.getClass().getName();
        }
        same(what + " throws", thrown, due.getName());
        same(what + " leaves", pictureOf(x), before);
    }

    /** A new airport with this weather and no wind, some minutes later. */
    static IcePad after(int minutes, int temperature, int fall, int rate) {
        IcePad x = new IcePad();
        x.weather(temperature, fall, rate, 0);
        x.pass(minutes);
        return x;
    }

    /** All that can be asked of an airport, as one text. */
    static String pictureOf(IcePad x) {
        StringBuilder picture = new StringBuilder();
        for (int third = 0; third < 3; third++) {
            picture.append(" third ").append(third).append(": code ").append(x.code(third));
            for (int what = 0; what <= 3; what++) {
                picture.append(' ').append(x.thirdOf(third, what));
            }
        }
        picture.append(" good ").append(x.isGood());
        int aircraft = 0;
        while (addAircraft(picture, x, aircraft)) {
            aircraft++;
        }
        picture.append(" queue");
        for (int place = 0; place <= aircraft; place++) {
            picture.append(' ').append(x.queue(place));
        }
        picture.append(" sums");
        for (int what = 0; what <= 6; what++) {
            picture.append(' ').append(x.sum(what));
        }
        return picture.toString();
    }

    private static boolean addAircraft(StringBuilder picture, IcePad x, int aircraft) {
        int state;
        try {
            state = x.aircraftOf(aircraft, 0);
        } catch (IndexOutOfBoundsException none) {
            return false;
        }
        picture.append(" aircraft ").append(aircraft).append(": ").append(state);
        for (int what = 1; what <= 4; what++) {
            picture.append(' ').append(x.aircraftOf(aircraft, what));
        }
        if (x.aircraftOf(aircraft, 2) > 0) {
            picture.append(" clock ").append(x.clock(aircraft));
        }
        picture.append(" whyNot ").append(x.whyNot(aircraft));
        return true;
    }

    /** Every test's main ends with this. */
    static void end() {
        System.out.println(checks + " checks, " + wrong + " wrong");
        if (wrong != 0) {
            System.exit(1);
        }
    }
}
