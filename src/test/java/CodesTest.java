/** Promises 4, 5 and 14 to 16, and what the document's "Codes" tells of reports and of a closed runway. */
public final class CodesTest {
    private static final int CLEAR = 0, SNOW = 1, RAIN = 2, FROST = 3;
    private static final int DRY = 0, WET = 1, SNOWY = 2, ICY = 3;

    public static void main(String[] args) {
        codes();
        reports();
        good();
        closing();
        ploughing();
        bareSnow();
        Check.end();
    }

    // ---- the code of what lies there

    private static void codes() {
        Check.sentence("Terms: The code of a third by what lies there is 6 of a DRY one, 5 of a WET one", () -> {
            code("DRY", new IcePad(), -31, 6);
            code("DRY", new IcePad(), -30, 6);
            code("WET", Check.after(1, 0, RAIN, 30), -31, 5);
            code("WET", Check.after(1, 0, RAIN, 30), -30, 5);
        });
        Check.sentence("Terms: of a SNOWY one 5 with a depth up to 30 and a temperature below -30", () -> {
            code("no depth, at -31", snowy(0), -31, 5);
            code("no depth, at -30", snowy(0), -30, 3);
            code("30 at -31", snowy(30), -31, 5);
            code("30 at -400", snowy(30), -400, 5);
            code("30 at -30", snowy(30), -30, 3);
            code("30 at 400", snowy(30), 400, 3);
            code("31 at -31", snowy(31), -31, 3);
            code("31 at -30", snowy(31), -30, 3);
        });
        Check.sentence("Terms: otherwise 3 up to 100, 2 above", () -> {
            code("100", snowy(100), 0, 3);
            code("100 at -31", snowy(100), -31, 3);
            code("101", snowy(101), 0, 2);
            code("101 at -31", snowy(101), -31, 2);
            code("5000", Check.after(200, 0, SNOW, 30), 0, 2);
        });
        Check.sentence("Terms: and of an ICY one 1 below -30, 0 otherwise", () -> {
            code("at -30", icy(), -30, 0);
            code("at -31", icy(), -31, 1);
            code("at -400", icy(), -400, 1);
            code("at 400", icy(), 400, 0);
            code("deep and cold", Check.after(200, -1, RAIN, 30), -31, 1);
        });
        Check.sentence("Promise 14: Returns the code of a third.", CodesTest::codeOfOneThird);
        Check.sentence("Promise 15: 2 1 if it is sprayed now, 0 if not, 3 the code by what lies there",
                CodesTest::thirdOf);
    }

    /** The code of each third at this temperature, without a report. */
    private static void code(String what, IcePad x, int temperature, int due) {
        x.weather(temperature, CLEAR, 0, 0);
        for (int third = 0; third < 3; third++) {
            Check.is(what + ": code of third " + third, x.code(third), due);
            Check.is(what + ": code by what lies there", x.thirdOf(third, 3), due);
        }
    }

    private static IcePad snowy(int depth) {
        IcePad x = new IcePad();
        for (int left = depth; left > 30; left -= 30) {
            Check.then(x, 1, 0, SNOW, 30);
        }
        Check.then(x, 1, 0, SNOW, depth > 0 ? (depth - 1) % 30 + 1 : 0);
        Check.is("the depth", x.thirdOf(0, 1), depth);
        return x;
    }

    private static IcePad icy() {
        return Check.after(1, -1, FROST, 0);
    }

    /** Third 1 is sprayed, so it is WET beside ice. */
    private static IcePad wetBesideIce() {
        IcePad x = new IcePad();
        x.spray(1);
        Check.then(x, 1, -31, RAIN, 4);
        return x;
    }

    private static void codeOfOneThird() {
        IcePad x = wetBesideIce();
        Check.is("ice", x.code(0), 1);
        Check.is("wet", x.code(1), 5);
        Check.is("ice again", x.code(2), 1);
        x.pilot(1, 4);
        Check.is("wet, as reported", x.code(1), 4);
        Check.is("ice, not reported", x.code(2), 1);
    }

    private static void thirdOf() {
        IcePad x = wetBesideIce();
        x.pilot(1, 2);
        int[][] due = {{ICY, 4, 0, 1}, {WET, 0, 1, 5}, {ICY, 4, 0, 1}};
        for (int third = 0; third < 3; third++) {
            for (int what = 0; what < 4; what++) {
                Check.is("thirdOf " + third + " " + what, x.thirdOf(third, what), due[third][what]);
            }
        }
    }

    // ---- what pilots report

    private static void reports() {
        Check.sentence("Terms: What a pilot reported of it in the 30 minutes ahead of now, that of now too", () -> {
            Check.is("now", reported(2, 0).code(1), 2);
            Check.is("a minute ago", reported(2, 1).code(1), 2);
            Check.is("30 minutes ago", reported(2, 30).code(1), 2);
            Check.is("31 minutes ago", reported(2, 31).code(1), 6);
            Check.is("500 minutes ago", reported(2, 500).code(1), 6);
        });
        Check.sentence("Terms: makes it lower, if it is lower", () -> {
            Check.is("the least on DRY", reported(0, 0).code(1), 0);
            Check.is("one lower on DRY", reported(5, 0).code(1), 5);
            Check.is("the same on DRY", reported(6, 0).code(1), 6);
            IcePad x = Check.after(1, 0, SNOW, 1);
            Check.is("one lower on SNOWY", x.pilot(0, 2), 2);
            Check.is("the same on SNOWY", x.pilot(0, 3), 3);
            Check.is("one higher on SNOWY", x.pilot(0, 4), 3);
            Check.is("the most on SNOWY", x.pilot(0, 6), 3);
            Check.is("the least on ICY", icy().pilot(0, 0), 0);
            Check.is("the most on ICY", icy().pilot(0, 6), 0);
        });
        Check.sentence("Terms: of several the latest counts", CodesTest::latestReport);
        Check.sentence("Promise 5: Tells what a pilot reports of a third.", CodesTest::reportOfOneThird);
        Check.sentence("Promise 5: Returns the code of the third then.", CodesTest::pilotReturns);
    }

    /** A dry runway of whose third 1 a pilot reported so many minutes ago. */
    private static IcePad reported(int code, int minutesAgo) {
        IcePad x = new IcePad();
        x.pilot(1, code);
        if (minutesAgo > 0) {
            x.pass(minutesAgo);
        }
        return x;
    }

    private static void latestReport() {
        IcePad x = reported(1, 0);
        Check.is("a higher one in the same minute", x.pilot(1, 4), 4);
        Check.is("a lower one in the same minute", x.pilot(1, 3), 3);
        x.pass(30);
        x.pilot(1, 5);
        Check.is("a higher one 30 minutes on", x.code(1), 5);
        x.pass(30);
        Check.is("30 minutes behind the latest", x.code(1), 5);
        x.pass(1);
        Check.is("31 minutes behind the latest", x.code(1), 6);
        IcePad y = reported(1, 5);
        y.pilot(1, 6);
        Check.is("one that is not lower", y.code(1), 6);
    }

    private static void reportOfOneThird() {
        for (int told = 0; told < 3; told++) {
            IcePad x = new IcePad();
            x.pilot(told, 2);
            for (int third = 0; third < 3; third++) {
                Check.is("third " + third + ", told of " + told, x.code(third), third == told ? 2 : 6);
                Check.is("by what lies there", x.thirdOf(third, 3), 6);
            }
        }
    }

    private static void pilotReturns() {
        IcePad x = new IcePad();
        for (int code = 0; code <= 6; code++) {
            Check.is("reported " + code, x.pilot(0, code), code);
        }
        Check.is("of an icy one", icy().pilot(2, 3), 0);
    }

    // ---- a good runway

    private static void good() {
        Check.sentence("Terms: What is needed is 1 with a wind up to 10, 3 up to 20, 5 up to 30, and 7 above.", () -> {
            int[] winds = {0, 10, 11, 20, 21, 30, 31, 60};
            int[] needed = {1, 1, 3, 3, 5, 5, 7, 7};
            for (int i = 0; i < winds.length; i++) {
                for (int code = 0; code <= 6; code++) {
                    boolean good = withCode(0, code, winds[i]).isGood();
                    Check.is("good with " + code + " in a wind of " + winds[i], good, code >= needed[i]);
                }
            }
        });
        Check.sentence("Terms: and all three codes are what is needed or more", () -> {
            for (int third = 0; third < 3; third++) {
                Check.is("one less at " + third, withCode(third, 2, 20).isGood(), false);
                Check.is("what is needed at " + third, withCode(third, 3, 20).isGood(), true);
                Check.is("one more at " + third, withCode(third, 4, 20).isGood(), true);
            }
        });
        Check.sentence("Terms: The runway is good if it is not closed", () -> {
            IcePad x = new IcePad();
            Check.is("not closed", x.isGood(), true);
            x.close(1, 0);
            Check.is("closed", x.isGood(), false);
        });
        Check.sentence("Promise 16: Returns whether the runway is good.", () -> {
            IcePad x = Check.after(1, 0, SNOW, 30);
            Check.is("of what lies there", x.isGood(), true);
            x.weather(0, CLEAR, 0, 21);
            Check.is("and of the wind of now", x.isGood(), false);
            x.weather(-31, CLEAR, 0, 21);
            Check.is("and of the temperature of now", x.isGood(), true);
        });
    }

    private static IcePad withCode(int third, int code, int wind) {
        IcePad x = new IcePad();
        x.weather(0, CLEAR, 0, wind);
        x.pilot(third, code);
        return x;
    }

    // ---- a closed runway

    private static void closing() {
        Check.sentence("Promise 4: Returns the minute up to which it is closed.", CodesTest::closeReturns);
        Check.sentence("Terms: it is closed from now on up to the minute that is so many later, with it",
                CodesTest::closedUpTo);
        Check.sentence("Terms: The runway may be closed for some minutes with some ploughs, in place of what was told",
                CodesTest::closedInPlaceOfThat);
    }

    private static void closeReturns() {
        IcePad x = new IcePad();
        Check.is("the least", x.close(1, 0), 1);
        Check.is("the most", x.close(500, 11), 500);
        x.pass(7);
        Check.is("later", x.close(3, 2), 10);
    }

    private static void closedUpTo() {
        for (int minutes : new int[] {1, 2, 500}) {
            IcePad x = Check.after(3, 0, CLEAR, 0);
            x.close(minutes, 0);
            Check.is("closed now", x.isGood(), false);
            x.pass(minutes);
            Check.is("closed with the minute " + minutes + " later", x.isGood(), false);
            x.pass(1);
            Check.is("open in the minute behind it", x.isGood(), true);
        }
    }

    private static void closedInPlaceOfThat() {
        IcePad shorter = new IcePad();
        shorter.close(500, 11);
        shorter.close(1, 0);
        Check.then(shorter, 1, 0, SNOW, 5);
        Check.is("no ploughs in place of 11", shorter.sum(6), 0);
        shorter.pass(1);
        Check.is("open in place of closed for long", shorter.isGood(), true);
        IcePad longer = new IcePad();
        longer.close(1, 0);
        longer.close(2, 1);
        Check.then(longer, 2, 0, SNOW, 5);
        Check.is("closed for longer", longer.isGood(), false);
        Check.is("a plough in place of none", longer.sum(6), 30);
        longer.pass(1);
        longer.close(3, 0);
        Check.is("closed again when it was open", longer.isGood(), false);
    }

    // ---- ploughs

    private static void ploughing() {
        Check.sentence("Terms: in each minute that comes in which it is closed", CodesTest::minutesOfPloughing);
        Check.sentence("Terms: behind what happens to the thirds", CodesTest::ploughedBehindTheThirds);
        Check.sentence("Terms: the ploughs take 40 times as many as they are of depth in all", CodesTest::ploughsTake);
        Check.sentence("Terms: from the SNOWY thirds one behind the other, from the third 0 on",
                CodesTest::ploughedInOrder);
        Check.sentence("Terms: from the SNOWY thirds", CodesTest::iceIsNotPloughed);
        Check.sentence("Terms: as far as there is", CodesTest::ploughsTakeNoMoreThanThereIs);
        Check.sentence("Terms: What they take is on the heap.", CodesTest::heap);
    }

    private static void depths(String what, IcePad x, int first, int second, int last) {
        int[] due = {first, second, last};
        for (int third = 0; third < 3; third++) {
            Check.is(what + ": depth of third " + third, x.thirdOf(third, 1), due[third]);
        }
    }

    /** Snow on all thirds, a sky that adds nothing, and the runway closed. */
    private static IcePad closedOnSnow(int depth, int minutes, int ploughs) {
        IcePad x = snowy(depth);
        x.weather(0, CLEAR, 0, 0);
        x.close(minutes, ploughs);
        return x;
    }

    private static void minutesOfPloughing() {
        IcePad x = closedOnSnow(100, 2, 1);
        depths("without a minute", x, 100, 100, 100);
        x.pass(1);
        depths("in the first minute", x, 60, 100, 100);
        x.pass(1);
        depths("in the last minute", x, 20, 100, 100);
        x.pass(1);
        depths("in the minute behind it", x, 20, 100, 100);
    }

    private static void ploughedBehindTheThirds() {
        IcePad fresh = new IcePad();
        fresh.close(1, 1);
        Check.then(fresh, 1, 0, SNOW, 30);
        depths("ploughed what just fell", fresh, 0, 20, 30);
        IcePad melting = closedOnSnow(20, 1, 1);
        Check.then(melting, 1, 21, CLEAR, 0);
        depths("ploughed what did not melt", melting, 0, 0, 14);
        IcePad wet = closedOnSnow(20, 1, 1);
        Check.then(wet, 1, -1, CLEAR, 0);
        Check.is("bared behind the freezing", wet.thirdOf(0, 0), WET);
        wet.pass(1);
        Check.is("frozen in the next minute", wet.thirdOf(0, 0), ICY);
    }

    private static void ploughsTake() {
        for (int ploughs = 0; ploughs <= 11; ploughs++) {
            IcePad x = closedOnSnow(1000, 1, ploughs);
            x.pass(1);
            depths(ploughs + " ploughs", x, 1000 - 40 * ploughs, 1000, 1000);
            Check.is("the heap of " + ploughs, x.sum(6), 40 * ploughs);
        }
    }

    private static void ploughedInOrder() {
        IcePad x = closedOnSnow(60, 5, 2);
        x.pass(1);
        depths("80 from the first and the second", x, 0, 40, 60);
        x.pass(1);
        depths("80 from the second and the last", x, 0, 0, 20);
        x.pass(1);
        depths("what is left", x, 0, 0, 0);
        IcePad just = closedOnSnow(40, 1, 1);
        just.pass(1);
        depths("just the first", just, 0, 40, 40);
        IcePad one = closedOnSnow(39, 1, 1);
        one.pass(1);
        depths("the first, and 1 of the second", one, 0, 38, 39);
    }

    private static void iceIsNotPloughed() {
        IcePad ice = Check.after(2, -10, RAIN, 20);
        ice.weather(-10, CLEAR, 0, 0);
        ice.close(5, 11);
        ice.pass(5);
        depths("ice", ice, 40, 40, 40);
        Check.is("no heap of ice", ice.sum(6), 0);
        IcePad mixed = Check.after(1, -1, SNOW, 30);
        mixed.spray(1);
        Check.then(mixed, 1, -1, RAIN, 5);
        mixed.weather(-1, CLEAR, 0, 0);
        mixed.close(1, 11);
        mixed.pass(1);
        depths("snow between ice", mixed, 35, 0, 35);
        Check.is("the heap of the one", mixed.sum(6), 30);
    }

    private static void ploughsTakeNoMoreThanThereIs() {
        IcePad bare = new IcePad();
        bare.close(3, 11);
        bare.pass(3);
        Check.is("nothing of a dry runway", bare.sum(6), 0);
        Check.is("which stays dry", bare.thirdOf(0, 0), DRY);
        IcePad x = closedOnSnow(20, 2, 11);
        x.pass(2);
        depths("less than the ploughs might take", x, 0, 0, 0);
        Check.is("no more than there was", x.sum(6), 60);
    }

    private static void heap() {
        IcePad x = closedOnSnow(50, 2, 1);
        Check.is("at first", x.sum(6), 0);
        x.pass(1);
        Check.is("of one minute", x.sum(6), 40);
        x.pass(1);
        Check.is("of two minutes", x.sum(6), 80);
        x.pass(1);
        Check.is("open again", x.sum(6), 80);
        x.close(1, 11);
        x.pass(1);
        Check.is("of all closures", x.sum(6), 150);
    }

    private static void bareSnow() {
        Check.sentence("Terms: in each such minute, and in no other one", () -> {
            IcePad x = Check.after(1, 10, SNOW, 0);
            covers("open", x, SNOWY);
            x.close(2, 1);
            covers("closed, without a minute", x, SNOWY);
            x.pass(1);
            covers("in the first closed minute", x, WET);
            x.pass(1);
            covers("in the last closed minute", x, WET);
            x.pass(1);
            covers("open again", x, SNOWY);
        });
        Check.sentence("Terms: also without ploughs", () -> {
            IcePad x = Check.after(1, 10, SNOW, 0);
            x.close(1, 0);
            x.pass(1);
            covers("without ploughs", x, WET);
        });
        Check.sentence("Terms: each SNOWY third with the depth 0", () -> {
            IcePad one = closedOnSnow(1, 1, 0);
            one.pass(1);
            covers("with the depth 1", one, SNOWY);
            IcePad ice = Check.after(1, -10, RAIN, 0);
            ice.close(1, 11);
            ice.pass(1);
            covers("ice without depth", ice, ICY);
            IcePad ploughed = closedOnSnow(40, 1, 1);
            ploughed.pass(1);
            Check.is("ploughed to 0", ploughed.thirdOf(0, 0), WET);
            Check.is("not ploughed", ploughed.thirdOf(1, 0), SNOWY);
        });
    }

    private static void covers(String what, IcePad x, int due) {
        for (int third = 0; third < 3; third++) {
            Check.is(what + ": cover of third " + third, x.thirdOf(third, 0), due);
        }
    }
}
