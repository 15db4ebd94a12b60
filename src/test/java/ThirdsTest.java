/** Promises 1 to 3, and what the document's "Weather, thirds" tells of a minute. */
public final class ThirdsTest {
    private static final int CLEAR = 0, SNOW = 1, RAIN = 2, FROST = 3;
    private static final int DRY = 0, WET = 1, SNOWY = 2, ICY = 3;

    /** Told ahead of all others. */
    private static final String STORY_OF_A_NEW_ONE = Check.storyOf(new IcePad());

    public static void main(String[] args) {
        newObject();
        snow();
        rain();
        frost();
        meltingAndFreezing();
        depth();
        spraying();
        Check.end();
    }

    private static void third(String what, IcePad x, int third, int cover, int depth) {
        Check.is(what + ": cover of third " + third, x.thirdOf(third, 0), cover);
        Check.is(what + ": depth of third " + third, x.thirdOf(third, 1), depth);
    }

    private static void thirds(String what, IcePad x, int cover, int depth) {
        for (int third = 0; third < 3; third++) {
            third(what, x, third, cover, depth);
        }
    }

    private static IcePad wet() {
        return Check.after(1, 0, RAIN, 5);
    }

    private static IcePad snowy(int depth) {
        return Check.after(1, 0, SNOW, depth);
    }

    private static IcePad icy(int depth) {
        return Check.after(1, -1, RAIN, depth);
    }

    private static IcePad sprayed(IcePad x) {
        for (int third = 0; third < 3; third++) {
            x.spray(third);
        }
        return x;
    }

    /** What one minute of this weather makes of these thirds. */
    private static void minute(String what, IcePad x, int temperature, int fall, int rate, int cover, int depth) {
        Check.then(x, 1, temperature, fall, rate);
        thirds(what, x, cover, depth);
    }

    // ---- promise 1

    private static void newObject() {
        Check.sentence("Promise 1: Opens the airport at the minute 0, with a runway that is DRY, and not closed.",
                ThirdsTest::opensDryAndOpen);
        Check.sentence("Terms: Minutes are counted from 0", () -> Check.is("pass", new IcePad().pass(1), 1));
        Check.sentence("Terms: 0, CLEAR, 0 and 0 at first", ThirdsTest::weatherAtFirst);
        Check.sentence("Terms: a depth, 0 at first, and is sprayed up to a minute, or not",
                ThirdsTest::bareAndNotSprayedAtFirst);
        Check.sentence("Promise 1: with a runway that is DRY (beside a used one)", ThirdsTest::sharesNothing);
    }

    private static void opensDryAndOpen() {
        IcePad x = new IcePad();
        thirds("new", x, DRY, 0);
        Check.is("good, so not closed", x.isGood(), true);
        Check.is("code", x.code(0) + x.code(1) + x.code(2), 18);
        Check.is("sprayed up to", x.spray(0), 60);
        Check.is("queue", x.queue(0), IcePad.NONE);
        for (int what = 0; what <= 6; what++) {
            Check.is("sum " + what, x.sum(what), 0);
        }
    }

    private static void weatherAtFirst() {
        IcePad x = new IcePad();
        x.pass(500);
        thirds("nothing falls", x, DRY, 0);
        x.supply(0, 100);
        x.aircraft(20, 0, 100);
        x.treat(0, 0, 0, 10, 50);
        Check.is("a clock with nothing that falls", x.clock(0), 1000000.0);
        x.pilot(0, 1);
        Check.is("no wind that needs more than 1", x.isGood(), true);
    }

    private static void bareAndNotSprayedAtFirst() {
        IcePad x = new IcePad();
        thirds("new", x, DRY, 0);
        for (int third = 0; third < 3; third++) {
            Check.is("sprayed is third " + third, x.thirdOf(third, 2), 0);
        }
        minute("nothing keeps the first frost away", x, -1, FROST, 0, ICY, 1);
    }

    private static void sharesNothing() {
        IcePad used = new IcePad();
        used.table(0, SNOW, 3);
        used.supply(1, 10);
        used.permit(7);
        used.aircraft(10, 0, 0);
        used.spray(0);
        used.close(500, 11);
        used.weather(-10, SNOW, 30, 60);
        used.pass(5);
        Check.same("the story of a new one", Check.storyOf(new IcePad()), STORY_OF_A_NEW_ONE);
    }

    // ---- what falls

    private static void snow() {
        Check.sentence("Promise 2: Tells the weather from now on.", ThirdsTest::weatherFromNowOn);
        Check.sentence("Terms: SNOW makes it SNOWY", () -> {
            minute("on DRY", new IcePad(), 0, SNOW, 7, SNOWY, 7);
            minute("on WET", wet(), 0, SNOW, 7, SNOWY, 7);
            minute("on WET, ahead of the freezing", wet(), -400, SNOW, 7, SNOWY, 7);
            minute("of the rate 0", new IcePad(), 0, SNOW, 0, SNOWY, 0);
            minute("of the rate 0 on WET", wet(), -1, SNOW, 0, SNOWY, 0);
        });
        Check.sentence("Terms: unless it is ICY", () -> {
            minute("on ICY", icy(5), -1, SNOW, 7, ICY, 12);
            minute("on ICY without depth", icy(0), 0, SNOW, 7, ICY, 7);
        });
        Check.sentence("Terms: and adds the rate to its depth, also of an ICY one", () -> {
            minute("the least rate", snowy(5), 0, SNOW, 0, SNOWY, 5);
            minute("the next rate", snowy(5), 0, SNOW, 1, SNOWY, 6);
            minute("the most rate", snowy(5), 0, SNOW, 30, SNOWY, 35);
            minute("the least rate on ICY", icy(5), 0, SNOW, 0, ICY, 5);
            minute("the most rate on ICY", icy(5), 0, SNOW, 30, ICY, 35);
            thirds("minute by minute", Check.after(4, 0, SNOW, 7), SNOWY, 28);
            minute("on a sprayed one", sprayed(snowy(5)), -10, SNOW, 3, SNOWY, 8);
        });
    }

    private static void weatherFromNowOn() {
        IcePad x = new IcePad();
        x.weather(-50, SNOW, 7, 31);
        thirds("not yet fallen", x, DRY, 0);
        Check.is("the wind of now", x.isGood(), false);
        x.pass(2);
        x.weather(-50, CLEAR, 7, 30);
        x.pass(3);
        thirds("fallen while it was told", x, SNOWY, 14);
        Check.is("the temperature of now", x.code(0), 5);
        Check.is("the wind of now is less", x.isGood(), true);
    }

    private static void rain() {
        Check.sentence("Terms: RAIN makes it ICY, and adds the rate, if the temperature is below 0", () -> {
            minute("at -1 on DRY", new IcePad(), -1, RAIN, 5, ICY, 5);
            minute("at -1 on WET", wet(), -1, RAIN, 5, ICY, 5);
            minute("at -1 on SNOWY", snowy(20), -1, RAIN, 5, ICY, 25);
            minute("at -1 on ICY", icy(20), -1, RAIN, 5, ICY, 25);
            minute("of the rate 0", new IcePad(), -1, RAIN, 0, ICY, 0);
            minute("of the most rate at the least temperature", new IcePad(), -400, RAIN, 30, ICY, 30);
            minute("at 0", new IcePad(), 0, RAIN, 5, WET, 0);
        });
        Check.sentence("Terms: and it is not sprayed, otherwise WET with the depth 0, if it was DRY", () -> {
            minute("sprayed at -1 on DRY", sprayed(new IcePad()), -1, RAIN, 5, WET, 0);
            minute("sprayed at -1 on WET", sprayed(wet()), -1, RAIN, 5, WET, 0);
            minute("sprayed at -1 on SNOWY", sprayed(snowy(20)), -1, RAIN, 5, SNOWY, 20);
            minute("sprayed at -1 on ICY", sprayed(icy(20)), -1, RAIN, 5, ICY, 20);
            minute("at 0 on DRY", new IcePad(), 0, RAIN, 30, WET, 0);
            minute("at 0 of the rate 0", new IcePad(), 0, RAIN, 0, WET, 0);
            minute("at 0 on WET", wet(), 0, RAIN, 30, WET, 0);
            minute("at 0 on SNOWY", snowy(20), 0, RAIN, 5, SNOWY, 20);
            minute("at 0 on ICY", icy(20), 0, RAIN, 5, ICY, 20);
        });
    }

    private static void frost() {
        Check.sentence("Terms: FROST makes it ICY with the depth 1, if it was DRY or WET", () -> {
            minute("on DRY", new IcePad(), -1, FROST, 9, ICY, 1);
            minute("on WET", wet(), -1, FROST, 9, ICY, 1);
            minute("on SNOWY", snowy(10), -1, FROST, 9, SNOWY, 10);
            minute("on SNOWY without depth", snowy(0), -1, FROST, 9, SNOWY, 0);
            minute("on ICY", icy(10), -1, FROST, 9, ICY, 10);
            minute("on ICY without depth", icy(0), -1, FROST, 9, ICY, 0);
            minute("of the rate 0", new IcePad(), -1, FROST, 0, ICY, 1);
        });
        Check.sentence("Terms: the temperature is below 0 and it is not sprayed", () -> {
            minute("at 0 on DRY", new IcePad(), 0, FROST, 9, DRY, 0);
            minute("at 0 on WET", wet(), 0, FROST, 9, WET, 0);
            minute("sprayed at -1 on DRY", sprayed(new IcePad()), -1, FROST, 9, DRY, 0);
            minute("sprayed at -1 on WET", sprayed(wet()), -1, FROST, 9, WET, 0);
        });
    }

    // ---- what melts and freezes

    private static void meltingAndFreezing() {
        Check.sentence("Terms: Then, above 20, what is SNOWY or ICY loses 2 of its depth", () -> {
            minute("SNOWY at 20", snowy(5), 20, CLEAR, 9, SNOWY, 5);
            minute("SNOWY at 21", snowy(5), 21, CLEAR, 9, SNOWY, 3);
            minute("ICY at 20", icy(5), 20, CLEAR, 9, ICY, 5);
            minute("ICY at 21", icy(5), 21, CLEAR, 9, ICY, 3);
            minute("SNOWY at the most", snowy(5), 400, CLEAR, 9, SNOWY, 3);
            minute("a sprayed one", sprayed(snowy(5)), 21, CLEAR, 9, SNOWY, 3);
            minute("it falls, then melts", snowy(5), 21, SNOW, 9, SNOWY, 12);
            minute("it rains, then melts", icy(5), 21, RAIN, 9, ICY, 3);
            minute("DRY", new IcePad(), 400, CLEAR, 0, DRY, 0);
            minute("WET", wet(), 400, CLEAR, 0, WET, 0);
        });
        Check.sentence("Terms: and is WET with 0, if no more is left", () -> {
            minute("SNOWY with 3", snowy(3), 21, CLEAR, 0, SNOWY, 1);
            minute("SNOWY with 2", snowy(2), 21, CLEAR, 0, WET, 0);
            minute("SNOWY with 1", snowy(1), 21, CLEAR, 0, WET, 0);
            minute("SNOWY with 0", snowy(0), 21, CLEAR, 0, WET, 0);
            minute("ICY with 3", icy(3), 21, CLEAR, 0, ICY, 1);
            minute("ICY with 2", icy(2), 21, CLEAR, 0, WET, 0);
            minute("ICY with 1", icy(1), 21, CLEAR, 0, WET, 0);
            minute("ICY with 0", icy(0), 21, CLEAR, 0, WET, 0);
            minute("fallen and melted at once", new IcePad(), 21, SNOW, 2, WET, 0);
        });
        Check.sentence("Terms: below 0 what is WET and not sprayed is ICY with the depth 1", () -> {
            minute("WET at 0", wet(), 0, CLEAR, 9, WET, 0);
            minute("WET at -1", wet(), -1, CLEAR, 9, ICY, 1);
            minute("WET at the least", wet(), -400, CLEAR, 9, ICY, 1);
            minute("WET and sprayed at -1", sprayed(wet()), -1, CLEAR, 9, WET, 0);
            minute("DRY at -1", new IcePad(), -1, CLEAR, 9, DRY, 0);
            minute("SNOWY without depth at -1", snowy(0), -1, CLEAR, 9, SNOWY, 0);
            minute("ICY without depth at -1", icy(0), -1, CLEAR, 9, ICY, 0);
        });
    }

    // ---- depth

    private static void depth() {
        Check.sentence("Terms: A depth is at most 5000.", () -> {
            thirds("166 minutes of 30", Check.after(166, 0, SNOW, 30), SNOWY, 4980);
            minute("up to 4999", Check.after(166, 0, SNOW, 30), 0, SNOW, 19, SNOWY, 4999);
            minute("up to 5000", Check.after(166, 0, SNOW, 30), 0, SNOW, 20, SNOWY, 5000);
            minute("1 more", Check.after(166, 0, SNOW, 30), 0, SNOW, 21, SNOWY, 5000);
            minute("30 on 5000", Check.after(400, 0, SNOW, 30), 0, SNOW, 30, SNOWY, 5000);
            minute("rain on 4980", Check.after(166, -1, RAIN, 30), -1, RAIN, 21, ICY, 5000);
            minute("rain on 5000", Check.after(400, -1, RAIN, 30), -1, RAIN, 30, ICY, 5000);
            minute("snow on ice of 5000", Check.after(400, -1, RAIN, 30), -1, SNOW, 30, ICY, 5000);
            minute("melting from 5000", Check.after(400, 0, SNOW, 30), 21, CLEAR, 0, SNOWY, 4998);
            minute("falling on 5000, then melting", Check.after(400, 0, SNOW, 30), 21, SNOW, 30, SNOWY, 4998);
        });
    }

    // ---- promise 3

    private static void spraying() {
        Check.sentence("Promise 3: Returns the minute up to which it is sprayed.", ThirdsTest::sprayReturns);
        Check.sentence("Terms: What is sprayed is so from now on", ThirdsTest::sprayedFromNowOn);
        Check.sentence("Terms: and in the 60 minutes that come", ThirdsTest::sprayedForAnHour);
        Check.sentence("Promise 3: Sprays a third.", ThirdsTest::spraysOneThird);
    }

    private static void sprayReturns() {
        IcePad x = new IcePad();
        Check.is("at the minute 0", x.spray(0), 60);
        Check.is("and again", x.spray(0), 60);
        x.pass(1);
        Check.is("at the minute 1", x.spray(2), 61);
        x.pass(500);
        Check.is("at the minute 501", x.spray(1), 561);
    }

    private static void sprayedFromNowOn() {
        IcePad x = new IcePad();
        x.spray(1);
        Check.is("now", x.thirdOf(1, 2), 1);
        Check.then(x, 1, -1, FROST, 0);
        third("frost in the first minute", x, 1, DRY, 0);
    }

    private static void sprayedForAnHour() {
        IcePad x = sprayed(wet());
        Check.then(x, 60, -1, CLEAR, 0);
        Check.is("in the minute 60", x.thirdOf(0, 2), 1);
        thirds("does not freeze in the minute 60", x, WET, 0);
        x.pass(1);
        Check.is("in the minute 61", x.thirdOf(0, 2), 0);
        thirds("freezes in the minute 61", x, ICY, 1);
        IcePad again = sprayed(Check.after(60, 0, CLEAR, 0));
        again.pass(60);
        Check.is("60 minutes behind the spraying at 60", again.thirdOf(2, 2), 1);
        again.spray(2);
        again.pass(60);
        Check.is("60 minutes behind the next", again.thirdOf(2, 2), 1);
        again.pass(1);
        Check.is("61 minutes behind it", again.thirdOf(2, 2), 0);
    }

    private static void spraysOneThird() {
        for (int sprayed = 0; sprayed < 3; sprayed++) {
            IcePad x = new IcePad();
            x.spray(sprayed);
            Check.then(x, 1, -1, FROST, 0);
            for (int third = 0; third < 3; third++) {
                Check.is("sprayed is third " + third, x.thirdOf(third, 2), third == sprayed ? 1 : 0);
                third("frost", x, third, third == sprayed ? DRY : ICY, third == sprayed ? 0 : 1);
            }
        }
        minute("ice stays", sprayed(icy(4)), -1, CLEAR, 0, ICY, 4);
    }
}
