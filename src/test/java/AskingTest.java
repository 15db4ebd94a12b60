/** Promises 14 to 21: code, thirdOf, isGood, aircraftOf, clock, whyNot, queue, sum. */
public final class AskingTest {
    private static final int CLEAR = 0, SNOW = 1, RAIN = 2, FROST = 3;

    public static void main(String[] args) {
        promise14Code();
        promise14OneThirdAlone();
        promise15ThirdOf();
        promise16IsGood();
        promise16EachThirdCounts();
        promise17AircraftOf();
        promise18Clock();
        promise18ClockFactors();
        promise19WhyNot();
        promise20Queue();
        promise20QueueOfLikeClocks();
        promise21Sum();
        Check.end();
    }

    private static int codeAt(IcePad x, int temperature) {
        x.weather(temperature, CLEAR, 0, 0);
        return x.code(0);
    }

    private static void promise14Code() {
        Check.is("dry", Check.after(1, 0, CLEAR, 0).code(0), 6);
        Check.is("wet", Check.after(1, 0, RAIN, 1).code(0), 5);
        IcePad thin = Check.after(3, 0, SNOW, 10);
        Check.is("30 of snow at -30", codeAt(thin, -30), 3);
        Check.is("30 of snow at -31", codeAt(thin, -31), 5);
        IcePad more = Check.after(1, 0, SNOW, 1);
        more.weather(0, SNOW, 30, 0);
        more.pass(1);
        Check.is("31 of snow at -31", codeAt(more, -31), 3);
        IcePad much = Check.after(5, 0, SNOW, 20);
        Check.is("100 of snow", codeAt(much, 0), 3);
        Check.is("100 of snow at -31", codeAt(much, -31), 3);
        much.weather(0, SNOW, 1, 0);
        much.pass(1);
        Check.is("101 of snow", codeAt(much, 0), 2);
        Check.is("101 of snow at -31", codeAt(much, -31), 2);
        IcePad ice = Check.after(1, -1, FROST, 0);
        Check.is("ice at -30", codeAt(ice, -30), 0);
        Check.is("ice at -31", codeAt(ice, -31), 1);
        Check.noIndex("code -1", ice, () -> ice.code(-1));
        Check.noIndex("code 3", ice, () -> ice.code(3));
        Check.noIndex("code far off", ice, () -> ice.code(Integer.MIN_VALUE));
    }

    private static void promise14OneThirdAlone() {
        IcePad x = new IcePad();
        x.spray(1);
        x.weather(-31, RAIN, 3, 0);
        x.pass(1);
        Check.is("ice", x.code(0), 1);
        Check.is("wet beside it", x.code(1), 5);
        Check.is("ice again", x.code(2), 1);
        x.pilot(1, 4);
        Check.is("a report", x.code(1), 4);
        Check.is("is of one third", x.code(2), 1);
    }

    private static void promise15ThirdOf() {
        IcePad x = new IcePad();
        x.spray(2);
        x.weather(-1, RAIN, 4, 0);
        x.pass(2);
        x.pilot(2, 1);
        int[][] due = {{3, 8, 0, 0}, {3, 8, 0, 0}, {1, 0, 1, 5}};
        for (int third = 0; third < 3; third++) {
            for (int what = 0; what < 4; what++) {
                Check.is("thirdOf " + third + " " + what, x.thirdOf(third, what), due[third][what]);
            }
        }
        Check.noIndex("thirdOf -1", x, () -> x.thirdOf(-1, 0));
        Check.noIndex("thirdOf 3", x, () -> x.thirdOf(3, 0));
        Check.noArgument("thirdOf what -1", x, () -> x.thirdOf(0, -1));
        Check.noArgument("thirdOf what 4", x, () -> x.thirdOf(0, 4));
        Check.noIndex("thirdOf with both wrong", x, () -> x.thirdOf(3, 4));
    }

    private static void promise16IsGood() {
        int[] winds = {0, 10, 11, 20, 21, 30, 31, 60};
        int[] needed = {1, 1, 3, 3, 5, 5, 7, 7};
        for (int i = 0; i < winds.length; i++) {
            for (int reported = 0; reported <= 6; reported++) {
                IcePad x = new IcePad();
                x.weather(0, CLEAR, 0, winds[i]);
                x.pilot(i % 3, reported);
                Check.is("good with code " + reported + " in a wind of " + winds[i], x.isGood(), reported >= needed[i]);
            }
        }
        IcePad x = new IcePad();
        x.close(1, 0);
        Check.is("a closed one is not good", x.isGood(), false);
    }

    private static void promise16EachThirdCounts() {
        for (int third = 0; third < 3; third++) {
            IcePad x = new IcePad();
            x.pilot(third, 0);
            Check.is("good with a 0 at " + third, x.isGood(), false);
            x.pass(31);
            Check.is("good without it", x.isGood(), true);
        }
    }

    private static void promise17AircraftOf() {
        IcePad x = new IcePad();
        x.supply(1, 1000);
        x.aircraft(60, 4, 20);
        String[] names = {"state", "left", "treated", "litres", "pad"};
        int[] told = {IcePad.WAITS, -1, 0, 0, -1};
        ask(x, "told", names, told);
        x.treat(0, 1, 1, 120, 50);
        ask(x, "on a pad", names, new int[] {IcePad.ON_PAD, -1, 1, 24, 1});
        x.pass(3);
        ask(x, "clean", names, new int[] {IcePad.CLEAN, -1, 1, 24, -1});
        x.treat(0, 2, 1, 10, 50);
        ask(x, "on a pad again", names, new int[] {IcePad.ON_PAD, -1, 2, 26, 2});
        x.pass(2);
        ask(x, "gone", names, new int[] {IcePad.GONE, 5, 2, 26, -1});
        Check.noIndex("aircraftOf -1", x, () -> x.aircraftOf(-1, 0));
        Check.noIndex("aircraftOf 1", x, () -> x.aircraftOf(1, 0));
        Check.noArgument("aircraftOf what -1", x, () -> x.aircraftOf(0, -1));
        Check.noArgument("aircraftOf what 5", x, () -> x.aircraftOf(0, 5));
        Check.noIndex("aircraftOf with both wrong", x, () -> x.aircraftOf(1, 5));
    }

    private static void ask(IcePad x, String when, String[] names, int[] due) {
        for (int what = 0; what < due.length; what++) {
            Check.is(when + ": " + names[what], x.aircraftOf(0, what), due[what]);
        }
    }

    private static void promise18Clock() {
        IcePad x = new IcePad();
        x.supply(1, 1000);
        x.aircraft(20, 0, 5);
        Check.notNow("clock of one not treated", x, () -> x.clock(0));
        x.pass(1);
        x.treat(0, 0, 1, 10, 75);
        Check.is("with a clear sky", x.clock(0), 1000000.0);
        x.weather(0, SNOW, 0, 0);
        Check.is("in snow", x.clock(0), 45.0);
        x.weather(0, RAIN, 0, 0);
        Check.is("in rain", x.clock(0), 22.5);
        x.close(1, 0);
        x.pass(1);
        Check.is("on the pad", x.clock(0), 21.5);
        x.pass(1);
        Check.is("gone", x.aircraftOf(0, 0), IcePad.GONE);
        x.pass(30);
        Check.is("of one that is gone, below 0", x.clock(0), -9.5);
        x.aircraft(20, 0, 5);
        Check.notNow("clock of another not treated", x, () -> x.clock(1));
        Check.noIndex("clock -1", x, () -> x.clock(-1));
        Check.noIndex("clock 2", x, () -> x.clock(2));
    }

    private static void promise18ClockFactors() {
        int[] temperatures = {400, -30, -31, -100, -101, -400};
        double[] factors = {1.0, 1.0, 0.75, 0.75, 0.5, 0.5};
        int[] strengths = {50, 75, 100};
        for (int strength : strengths) {
            IcePad x = new IcePad();
            x.supply(2, 1000);
            x.aircraft(20, 0, 5);
            x.treat(0, 0, 2, 10, strength);
            x.table(2, FROST, 333);
            for (int i = 0; i < temperatures.length; i++) {
                x.weather(temperatures[i], FROST, 0, 0);
                double due = 333 * strength * factors[i] / 100;
                Check.is("clock at " + temperatures[i] + ", " + strength, x.clock(0), due);
                x.weather(temperatures[i], CLEAR, 0, 0);
                Check.is("clear at " + temperatures[i] + ", " + strength, x.clock(0), 1000000.0);
            }
        }
    }

    private static void promise19WhyNot() {
        IcePad x = new IcePad();
        x.supply(0, 1000);
        x.aircraft(20, 5, 100);
        Check.is("it waits", x.whyNot(0), 1);
        x.treat(0, 0, 0, 10, 100);
        Check.is("it is on a pad", x.whyNot(0), 1);
        x.close(10, 0);
        x.pass(2);
        x.table(0, SNOW, 1);
        x.weather(0, SNOW, 0, 60);
        Check.is("its slot has not come", x.whyNot(0), 2);
        x.weather(0, CLEAR, 0, 60);
        x.pass(2);
        Check.is("its slot comes in a minute", x.whyNot(0), 2);
        x.pass(1);
        x.weather(0, SNOW, 0, 60);
        Check.is("its clock has run out", x.whyNot(0), 3);
        x.table(0, SNOW, 5);
        Check.is("the runway is closed", x.whyNot(0), 4);
        x.weather(0, CLEAR, 0, 60);
        x.pass(6);
        Check.is("a code is less than needed", x.whyNot(0), 5);
        x.weather(0, CLEAR, 0, 30);
        Check.is("nothing hinders it", x.whyNot(0), 0);
        x.pass(1);
        Check.is("it is gone", x.whyNot(0), 1);
        Check.is("it left", x.aircraftOf(0, 1), 12);
        Check.noIndex("whyNot -1", x, () -> x.whyNot(-1));
        Check.noIndex("whyNot 1", x, () -> x.whyNot(1));
    }

    private static void queueIs(String when, IcePad x, int... due) {
        for (int place = 0; place < due.length; place++) {
            Check.is("queue " + when + ", place " + place, x.queue(place), due[place]);
        }
        Check.is("queue " + when + ", behind it", x.queue(due.length), IcePad.NONE);
        Check.is("queue " + when + ", far behind it", x.queue(Integer.MAX_VALUE), IcePad.NONE);
    }

    private static void promise20Queue() {
        IcePad x = new IcePad();
        x.supply(0, 1000);
        x.supply(1, 1000);
        for (int i = 0; i < 4; i++) {
            x.aircraft(20, i == 1 ? 500 : 0, 1000);
        }
        queueIs("of none", x);
        x.weather(0, FROST, 0, 60);
        x.treat(0, 0, 1, 10, 100);
        x.treat(1, 1, 0, 10, 100);
        x.treat(2, 2, 1, 10, 75);
        queueIs("of those on pads", x);
        x.pass(2);
        queueIs("by what is left", x, 1, 2, 0);
        x.treat(3, 0, 1, 10, 50);
        x.pass(2);
        queueIs("with one more", x, 1, 3, 2, 0);
        x.table(1, FROST, 4);
        queueIs("with clocks that have run out", x, 2, 0, 3, 1);
        x.pass(1);
        queueIs("without those that ran out", x, 1);
        Check.noIndex("queue -1", x, () -> x.queue(-1));
        Check.noIndex("queue far off", x, () -> x.queue(Integer.MIN_VALUE));
    }

    private static void promise20QueueOfLikeClocks() {
        IcePad x = new IcePad();
        x.supply(0, 1000);
        for (int i = 0; i < 3; i++) {
            x.aircraft(20, 0, 1000);
        }
        x.weather(0, CLEAR, 0, 60);
        x.treat(2, 0, 0, 10, 50);
        x.treat(1, 1, 0, 10, 75);
        x.treat(0, 2, 0, 10, 100);
        x.pass(2);
        queueIs("of like clocks", x, 0, 1, 2);
        x.weather(0, SNOW, 0, 60);
        queueIs("in other weather", x, 2, 1, 0);
    }

    private static void sumsAre(String when, IcePad x, int... due) {
        for (int what = 0; what < due.length; what++) {
            Check.is("sum " + what + " " + when, x.sum(what), due[what]);
        }
    }

    private static void promise21Sum() {
        IcePad x = new IcePad();
        x.supply(0, 400);
        x.supply(1, 300);
        x.aircraft(20, 0, 100);
        x.aircraft(20, 0, 100);
        x.aircraft(20, 0, 100);
        x.treat(0, 0, 0, 103, 50);
        x.treat(1, 1, 1, 57, 100);
        x.cancel(1);
        sumsAre("when treated", x, 700, 540, 31, 129, 0, 0, 0);
        x.weather(0, SNOW, 6, 0);
        x.pass(3);
        Check.is("one is gone", x.aircraftOf(0, 0), IcePad.GONE);
        x.release(20);
        x.close(1, 1);
        x.pass(1);
        sumsAre("later", x, 700, 540, 31, 97, 12, 20, 40);
        x.treat(2, 0, 0, 10, 50);
        sumsAre("with one more", x, 700, 530, 33, 105, 12, 20, 40);
        Check.noArgument("sum -1", x, () -> x.sum(-1));
        Check.noArgument("sum 7", x, () -> x.sum(7));
    }
}
