/** What the tests share: a test for each sentence, comparing answers, calls that must be refused without a trace. */
final class Check {
    static final Class<?> INDEX = IndexOutOfBoundsException.class;
    static final Class<?> ARGUMENT = IllegalArgumentException.class;
    static final Class<?> STATE = IllegalStateException.class;

    /** Spraying lasts longest of all that is hidden: 60 minutes. */
    private static final int MINUTES_OF_A_STORY = 62;

    private static int checks = 0;
    private static int wrong = 0;
    private static String sentence = "";

    interface Call {
        void run();
    }

    interface CallOf {
        void run(IcePad x);
    }

    interface Maker {
        IcePad make();
    }

    private Check() {
    }

    /** Runs the test of one sentence of the document; what is wrong in it is printed with the sentence. */
    static void sentence(String words, Call test) {
        sentence = words;
        int before = checks;
        try {
            test.run();
        } catch (RuntimeException e) {
            same("the test of this sentence throws", e.toString(), "nothing");
        }
        is("the test of this sentence checks something", checks > before, true);
        sentence = "";
    }

    static void is(String what, long got, long due) {
        same(what, Long.toString(got), Long.toString(due));
    }

    static void is(String what, double got, double due) {
        same(what, Double.toString(got), Double.toString(due));
    }

    static void is(String what, boolean got, boolean due) {
        same(what, Boolean.toString(got), Boolean.toString(due));
    }

    static void same(String what, String got, String due) {
        checks++;
        if (!got.equals(due)) {
            wrong++;
            System.out.println("[" + sentence + "] " + what + " answered " + got + ", due is " + due);
        }
    }

    /** The call must throw exactly this, and what was asked go on like a twin that was not. */
    static void refused(Class<?> due, String what, Maker maker, CallOf call) {
        IcePad x = maker.make();
        same(what + " throws", thrownBy(() -> call.run(x)), due.getName());
        sameStory(what + " changed it", storyOf(x), storyOf(maker.make()));
    }

    /** Stories are long: of two that differ only the place is told. */
    private static void sameStory(String what, String got, String due) {
        int at = 0;
        while (at < got.length() && at < due.length() && got.charAt(at) == due.charAt(at)) {
            at++;
        }
        same(what, around(got, at), around(due, at));
    }

    private static String around(String story, int at) {
        return story.substring(Math.max(0, at - 40), Math.min(story.length(), at + 40));
    }

    /** The call must be taken. */
    static void taken(String what, Maker maker, CallOf call) {
        IcePad x = maker.make();
        same(what + " throws", thrownBy(() -> call.run(x)), "nothing");
    }

    /** The call must throw IndexOutOfBoundsException, and change nothing that can be asked. */
    static void noIndex(String what, IcePad x, Call call) {
        refusedHere(INDEX, what, x, call);
    }

    /** The call must throw IllegalArgumentException, and change nothing that can be asked. */
    static void noArgument(String what, IcePad x, Call call) {
        refusedHere(ARGUMENT, what, x, call);
    }

    /** The call must throw IllegalStateException, and change nothing that can be asked. */
    static void notNow(String what, IcePad x, Call call) {
        refusedHere(STATE, what, x, call);
    }

    private static void refusedHere(Class<?> due, String what, IcePad x, Call call) {
        String before = pictureOf(x);
        same(what + " throws", thrownBy(call), due.getName());
        same(what + " leaves", pictureOf(x), before);
    }

    private static String thrownBy(Call call) {
        try {
            call.run();
        } catch (RuntimeException e) {
            return e.getClass().getName();
        }
        return "nothing";
    }

    /** A new airport with this weather and no wind, some minutes later. */
    static IcePad after(int minutes, int temperature, int fall, int rate) {
        IcePad x = new IcePad();
        then(x, minutes, temperature, fall, rate);
        return x;
    }

    /** The airport with this weather and no wind, some minutes later. */
    static void then(IcePad x, int minutes, int temperature, int fall, int rate) {
        x.weather(temperature, fall, rate, 0);
        x.pass(minutes);
    }

    /** What an airport answers now and minute by minute: what can't be asked shows by what follows from it. */
    static String storyOf(IcePad x) {
        StringBuilder story = new StringBuilder(pictureOf(x));
        addTable(story, x);
        addRiver(story, x);
        for (int i = 0; i < MINUTES_OF_A_STORY; i++) {
            story.append(" minute ").append(x.pass(1)).append(pictureOf(x));
        }
        return story.toString();
    }

    private static void addTable(StringBuilder story, IcePad x) {
        story.append(" table");
        for (int fluid = 0; fluid < 3; fluid++) {
            for (int fall = 1; fall <= 3; fall++) {
                int holds = x.table(fluid, fall, 1);
                x.table(fluid, fall, holds);
                story.append(' ').append(holds);
            }
        }
    }

    /** The permit, and what went into the river today, which only a release tells. */
    private static void addRiver(StringBuilder story, IcePad x) {
        int permit = x.permit(100000);
        story.append(" permit ").append(permit);
        if (x.sum(3) > 0 && x.sum(5) < 100000) {
            story.append(" went in today ").append(x.release(1));
        }
        x.permit(permit);
    }

    /** All that can be asked of an airport, as one text. */
    static String pictureOf(IcePad x) {
        StringBuilder picture = new StringBuilder();
        for (int third = 0; third < 3; third++) {
            picture.append(" third ").append(third).append(": code ").append(x.code(third));
            for (int what = 0; what <= 3; what++) {
                picture.append(' ').append(x.thirdOf(third, what));
            }
        }
        picture.append(" good ").append(x.isGood());
        int aircraft = 0;
        while (addAircraft(picture, x, aircraft)) {
            aircraft++;
        }
        picture.append(" queue");
        for (int place = 0; place <= aircraft; place++) {
            picture.append(' ').append(x.queue(place));
        }
        picture.append(" sums");
        for (int what = 0; what <= 6; what++) {
            picture.append(' ').append(x.sum(what));
        }
        return picture.toString();
    }

    private static boolean addAircraft(StringBuilder picture, IcePad x, int aircraft) {
        int state;
        try {
            state = x.aircraftOf(aircraft, 0);
        } catch (IndexOutOfBoundsException none) {
            return false;
        }
        picture.append(" aircraft ").append(aircraft).append(": ").append(state);
        for (int what = 1; what <= 4; what++) {
            picture.append(' ').append(x.aircraftOf(aircraft, what));
        }
        if (x.aircraftOf(aircraft, 2) > 0) {
            picture.append(" clock ").append(x.clock(aircraft));
        }
        picture.append(" whyNot ").append(x.whyNot(aircraft));
        return true;
    }

    /** Every test's main ends with this. */
    static void end() {
        System.out.println(checks + " checks, " + wrong + " wrong");
        if (wrong != 0) {
            System.exit(1);
        }
    }
}
