/** Promises 1 to 5: a new object, weather, spray, close, pilot. */
public final class RunwayTest {
    private static final int CLEAR = 0, SNOW = 1, RAIN = 2, FROST = 3;
    private static final int DRY = 0, WET = 1, SNOWY = 2, ICY = 3;

    public static void main(String[] args) {
        promise1NewObject();
        promise2Ranges();
        promise2Snow();
        promise2Rain();
        promise2Frost();
        promise2Melting();
        promise2Freezing();
        promise2DeepestDepth();
        promise3Spray();
        promise3SprayKeepsIceAway();
        promise4Close();
        promise4Ploughs();
        promise4BareSnowIsWet();
        promise5Pilot();
        Check.end();
    }

    private static void third(String what, IcePad x, int third, int cover, int depth) {
        Check.is(what + ": cover", x.thirdOf(third, 0), cover);
        Check.is(what + ": depth", x.thirdOf(third, 1), depth);
    }

    private static void promise1NewObject() {
        IcePad x = new IcePad();
        for (int third = 0; third < 3; third++) {
            third("new", x, third, DRY, 0);
            Check.is("new: sprayed", x.thirdOf(third, 2), 0);
            Check.is("new: code", x.code(third), 6);
        }
        Check.is("new: good", x.isGood(), true);
        for (int what = 0; what <= 6; what++) {
            Check.is("new: sum " + what, x.sum(what), 0);
        }
        Check.is("new: queue", x.queue(0), IcePad.NONE);
        Check.is("new: permit", x.permit(0), 500);
        Check.is("new: minute", x.pass(1), 1);
        third("new, one minute on", x, 0, DRY, 0);
        newObjectsShareNothing();
    }

    private static void newObjectsShareNothing() {
        IcePad used = new IcePad();
        used.table(0, SNOW, 3);
        used.supply(1, 10);
        used.aircraft(10, 0, 0);
        used.weather(-10, SNOW, 30, 60);
        used.pass(5);
        IcePad x = new IcePad();
        third("new beside a used one", x, 0, DRY, 0);
        Check.is("new beside a used one: table", x.table(0, SNOW, 9), 20);
        Check.is("new beside a used one: aircraft", x.aircraft(10, 0, 0), 0);
        Check.is("new beside a used one: sum", x.sum(1), 0);
    }

    private static void promise2Ranges() {
        IcePad x = new IcePad();
        x.weather(-400, 3, 30, 60);
        x.weather(400, 0, 0, 0);
        x.weather(-50, SNOW, 7, 25);
        x.pass(1);
        Check.noArgument("weather too cold", x, () -> x.weather(-401, 0, 0, 0));
        Check.noArgument("weather too warm", x, () -> x.weather(401, 0, 0, 0));
        Check.noArgument("weather fall -1", x, () -> x.weather(0, -1, 0, 0));
        Check.noArgument("weather fall 4", x, () -> x.weather(0, 4, 0, 0));
        Check.noArgument("weather rate -1", x, () -> x.weather(0, 0, -1, 0));
        Check.noArgument("weather rate 31", x, () -> x.weather(0, 0, 31, 0));
        Check.noArgument("weather wind -1", x, () -> x.weather(0, 0, 0, -1));
        Check.noArgument("weather wind 61", x, () -> x.weather(0, 0, 0, 61));
        Check.noArgument("weather far off", x, () -> x.weather(Integer.MIN_VALUE, 9, Integer.MAX_VALUE, -9));
        x.pass(1);
        third("the weather before the refused ones still is", x, 0, SNOWY, 14);
        Check.is("and its wind: code 5 with wind 25", x.isGood(), true);
    }

    private static void promise2Snow() {
        third("snow on dry", Check.after(1, 0, SNOW, 7), 2, SNOWY, 7);
        third("snow adds", Check.after(4, 0, SNOW, 7), 0, SNOWY, 28);
        third("snow of rate 0", Check.after(1, 0, SNOW, 0), 0, SNOWY, 0);
        IcePad ice = Check.after(1, -10, RAIN, 5);
        ice.weather(-10, SNOW, 4, 0);
        ice.pass(2);
        third("snow on ice", ice, 1, ICY, 13);
        IcePad wet = Check.after(1, 0, RAIN, 5);
        wet.weather(-10, SNOW, 4, 0);
        wet.pass(1);
        third("snow on wet, ahead of the freezing", wet, 1, SNOWY, 4);
    }

    private static void promise2Rain() {
        third("rain at 0", Check.after(3, 0, RAIN, 5), 0, WET, 0);
        third("rain below 0", Check.after(1, -1, RAIN, 5), 0, ICY, 5);
        third("rain below 0 adds", Check.after(3, -1, RAIN, 5), 2, ICY, 15);
        third("rain of rate 0 below 0", Check.after(1, -1, RAIN, 0), 2, ICY, 0);
        IcePad snow = Check.after(2, 0, SNOW, 10);
        snow.weather(0, RAIN, 5, 0);
        snow.pass(1);
        third("rain at 0 on snow", snow, 0, SNOWY, 20);
        snow.weather(-1, RAIN, 5, 0);
        snow.pass(1);
        third("rain below 0 on snow", snow, 0, ICY, 25);
        snow.weather(0, RAIN, 5, 0);
        snow.pass(1);
        third("rain at 0 on ice", snow, 0, ICY, 25);
        IcePad wet = Check.after(1, 0, RAIN, 5);
        wet.weather(-1, RAIN, 5, 0);
        wet.pass(1);
        third("rain below 0 on wet", wet, 0, ICY, 5);
    }

    private static void promise2Frost() {
        third("frost at 0", Check.after(1, 0, FROST, 9), 0, DRY, 0);
        third("frost below 0", Check.after(3, -1, FROST, 9), 0, ICY, 1);
        IcePad snow = Check.after(1, 0, SNOW, 10);
        snow.weather(-1, FROST, 9, 0);
        snow.pass(1);
        third("frost on snow", snow, 0, SNOWY, 10);
        IcePad wet = Check.after(1, 0, RAIN, 5);
        wet.weather(-1, FROST, 9, 0);
        wet.pass(1);
        third("frost on wet", wet, 0, ICY, 1);
    }

    private static void promise2Melting() {
        IcePad x = Check.after(1, 20, SNOW, 5);
        third("no melting at 20", x, 0, SNOWY, 5);
        x.weather(21, CLEAR, 0, 0);
        x.pass(1);
        third("melting at 21", x, 0, SNOWY, 3);
        x.pass(1);
        third("melting leaves 1", x, 0, SNOWY, 1);
        x.pass(1);
        third("melting from 1", x, 0, WET, 0);
        third("melting from 2 leaves nothing", Check.after(1, 21, SNOW, 2), 0, WET, 0);
        third("falls, then melts", Check.after(1, 21, SNOW, 3), 0, SNOWY, 1);
        IcePad ice = Check.after(1, -1, RAIN, 5);
        ice.weather(30, CLEAR, 9, 0);
        ice.pass(2);
        third("ice melts", ice, 0, ICY, 1);
        ice.pass(1);
        third("ice melts to wet", ice, 0, WET, 0);
        third("dry does not melt", Check.after(3, 100, CLEAR, 0), 0, DRY, 0);
    }

    private static void promise2Freezing() {
        IcePad x = Check.after(1, 0, RAIN, 5);
        x.weather(0, CLEAR, 0, 0);
        x.pass(1);
        third("no freezing at 0", x, 0, WET, 0);
        x.weather(-1, CLEAR, 9, 0);
        x.pass(2);
        third("wet freezes", x, 0, ICY, 1);
        third("dry does not freeze", Check.after(3, -100, CLEAR, 9), 0, DRY, 0);
    }

    private static void promise2DeepestDepth() {
        third("166 minutes of 30", Check.after(166, -10, SNOW, 30), 0, SNOWY, 4980);
        third("167 minutes of 30", Check.after(167, -10, SNOW, 30), 0, SNOWY, 5000);
        third("500 minutes of freezing rain", Check.after(500, -10, RAIN, 30), 1, ICY, 5000);
        IcePad x = Check.after(400, -10, SNOW, 30);
        x.weather(21, SNOW, 30, 0);
        x.pass(1);
        third("the deepest snow melts", x, 0, SNOWY, 4998);
    }

    private static void promise3Spray() {
        IcePad x = new IcePad();
        Check.is("spray", x.spray(1), 60);
        Check.is("sprayed now", x.thirdOf(1, 2), 1);
        Check.is("the others not", x.thirdOf(0, 2) + x.thirdOf(2, 2), 0);
        x.pass(60);
        Check.is("sprayed in the last minute", x.thirdOf(1, 2), 1);
        x.pass(1);
        Check.is("sprayed no more", x.thirdOf(1, 2), 0);
        Check.is("spray again", x.spray(1), 121);
        x.pass(10);
        Check.is("spray a sprayed one", x.spray(1), 131);
        x.pass(60);
        Check.is("sprayed for longer", x.thirdOf(1, 2), 1);
        Check.noIndex("spray -1", x, () -> x.spray(-1));
        Check.noIndex("spray 3", x, () -> x.spray(3));
        Check.noIndex("spray far off", x, () -> x.spray(Integer.MAX_VALUE));
    }

    private static void promise3SprayKeepsIceAway() {
        IcePad x = new IcePad();
        x.weather(-50, FROST, 5, 0);
        x.spray(0);
        x.pass(1);
        third("no frost on a sprayed one", x, 0, DRY, 0);
        third("frost beside it", x, 1, ICY, 1);
        x.weather(-50, RAIN, 5, 0);
        x.pass(1);
        third("rain on a sprayed one", x, 0, WET, 0);
        third("rain beside it", x, 1, ICY, 6);
        x.weather(-50, FROST, 5, 0);
        x.pass(58);
        third("wet in the last sprayed minute", x, 0, WET, 0);
        x.pass(1);
        third("ice behind the last sprayed minute", x, 0, ICY, 1);
        x.spray(0);
        x.weather(-50, SNOW, 3, 0);
        x.pass(1);
        third("a sprayed one stays icy, and is snowed on", x, 0, ICY, 4);
    }

    private static void promise4Close() {
        IcePad x = new IcePad();
        Check.is("close", x.close(3, 0), 3);
        Check.is("closed now", x.isGood(), false);
        x.pass(3);
        Check.is("closed with the last minute", x.isGood(), false);
        x.pass(1);
        Check.is("open behind it", x.isGood(), true);
        Check.is("close for long", x.close(500, 11), 504);
        Check.is("close in place of that", x.close(1, 0), 5);
        x.pass(2);
        Check.is("open again", x.isGood(), true);
        x.close(2, 0);
        Check.noArgument("close 0", x, () -> x.close(0, 0));
        Check.noArgument("close 501", x, () -> x.close(501, 0));
        Check.noArgument("close -1 ploughs", x, () -> x.close(1, -1));
        Check.noArgument("close 12 ploughs", x, () -> x.close(1, 12));
        x.pass(2);
        Check.is("still closed by what was told before", x.isGood(), false);
        x.pass(1);
        Check.is("and no longer", x.isGood(), true);
    }

    private static void promise4Ploughs() {
        IcePad x = Check.after(3, -10, SNOW, 20);
        x.weather(-10, CLEAR, 0, 0);
        x.close(2, 2);
        third("no ploughing without a minute", x, 0, SNOWY, 60);
        x.pass(1);
        third("80 from the first", x, 0, WET, 0);
        third("and the second", x, 1, SNOWY, 40);
        third("not the third", x, 2, SNOWY, 60);
        Check.is("the heap", x.sum(6), 80);
        x.pass(1);
        third("what was wet froze", x, 0, ICY, 1);
        third("40 from the second", x, 1, WET, 0);
        third("and 40 from the third", x, 2, SNOWY, 20);
        x.pass(1);
        third("no ploughing behind the last minute", x, 2, SNOWY, 20);
        Check.is("the heap then", x.sum(6), 160);
        x.close(500, 1);
        x.close(1, 0);
        x.pass(1);
        third("other ploughs in place of those told", x, 2, SNOWY, 20);
        ploughsLeaveIce();
        ploughsComeBehindTheFall();
    }

    private static void ploughsLeaveIce() {
        IcePad x = Check.after(2, -10, RAIN, 20);
        x.close(5, 11);
        x.weather(-10, CLEAR, 0, 0);
        x.pass(5);
        third("ice is not ploughed", x, 0, ICY, 40);
        Check.is("no heap of ice", x.sum(6), 0);
    }

    private static void ploughsComeBehindTheFall() {
        IcePad x = Check.after(1, 0, SNOW, 30);
        x.close(2, 1);
        x.pass(1);
        third("fallen and ploughed", x, 0, SNOWY, 20);
        x.weather(30, CLEAR, 0, 0);
        x.pass(1);
        third("melted and ploughed", x, 0, WET, 0);
        third("melted twice, ploughed by what is left of the ploughs", x, 1, SNOWY, 36);
        Check.is("the heap without what melted", x.sum(6), 40 + 18 + 22);
    }

    private static void promise4BareSnowIsWet() {
        IcePad x = Check.after(2, 10, SNOW, 0);
        third("snow without depth stays when open", x, 0, SNOWY, 0);
        x.close(1, 0);
        x.pass(1);
        third("and is wet when closed, without ploughs", x, 0, WET, 0);
        third("on each third", x, 2, WET, 0);
        x.pass(1);
        third("open again", x, 0, SNOWY, 0);
        IcePad ice = Check.after(1, -10, RAIN, 0);
        ice.close(1, 11);
        ice.pass(1);
        third("ice without depth stays", ice, 0, ICY, 0);
    }

    private static void promise5Pilot() {
        IcePad x = new IcePad();
        Check.is("a pilot reports less", x.pilot(1, 2), 2);
        Check.is("the code", x.code(1), 2);
        Check.is("not by what lies there", x.thirdOf(1, 3), 6);
        Check.is("the others", x.code(0) + x.code(2), 12);
        x.pass(30);
        Check.is("30 minutes on", x.code(1), 2);
        x.pass(1);
        Check.is("31 minutes on", x.code(1), 6);
        x.pilot(1, 0);
        Check.is("the latest counts", x.pilot(1, 4), 4);
        x.pass(5);
        Check.is("the latest counts, 6 as well", x.pilot(1, 6), 6);
        x.weather(0, SNOW, 1, 0);
        x.pass(1);
        Check.is("a report does not raise", x.code(1), 3);
        Check.is("the code then", x.pilot(1, 5), 3);
        Check.noIndex("pilot of third -1", x, () -> x.pilot(-1, 0));
        Check.noIndex("pilot of third 3", x, () -> x.pilot(3, 0));
        Check.noArgument("pilot code -1", x, () -> x.pilot(0, -1));
        Check.noArgument("pilot code 7", x, () -> x.pilot(0, 7));
        Check.noIndex("pilot with both wrong", x, () -> x.pilot(3, 7));
    }
}
