/** Promises 19 to 21: whyNot, queue, sum. */
public final class AskingTest {
    private static final int CLEAR = 0, SNOW = 1, FROST = 3;

    public static void main(String[] args) {
        whyNot();
        queue();
        sum();
        Check.end();
    }

    /** 1000 litres in each tank, and an aircraft for each slot. */
    private static IcePad withSlots(int... slots) {
        IcePad x = new IcePad();
        for (int fluid = 0; fluid < 3; fluid++) {
            x.supply(fluid, 1000);
        }
        for (int slot : slots) {
            x.aircraft(20, slot, 1000);
        }
        return x;
    }

    // ---- promise 19

    private static void whyNot() {
        Check.sentence("Promise 19: 1 it is not CLEAN", AskingTest::whyNotClean);
        Check.sentence("Promise 19: 2 its slot has not come", AskingTest::whyNotItsSlot);
        Check.sentence("Promise 19: 3 its clock has run out", AskingTest::whyNotItsClock);
        Check.sentence("Promise 19: 4 the runway is closed", AskingTest::whyNotTheClosedRunway);
        Check.sentence("Promise 19: 5 a code is less than needed; 0 if none is", AskingTest::whyNotTheCodes);
        Check.sentence("Promise 19: Returns the first of these that is so", AskingTest::whyNotFirst);
        Check.sentence("Promise 19: Returns why an aircraft would not leave now.", AskingTest::whyNotNow);
    }

    private static void whyNotClean() {
        IcePad x = withSlots(0, 0);
        Check.is("it waits", x.whyNot(0), 1);
        x.treat(0, 0, 0, 10, 100);
        Check.is("it is on a pad", x.whyNot(0), 1);
        x.pass(2);
        Check.is("it is gone", x.whyNot(0), 1);
        x.cancel(1);
        Check.is("it is cancelled", x.whyNot(1), 1);
    }

    private static void whyNotItsSlot() {
        IcePad x = withSlots(5);
        x.treat(0, 0, 0, 10, 100);
        x.pass(2);
        Check.is("in 3 minutes", x.whyNot(0), 2);
        x.pass(2);
        Check.is("in a minute", x.whyNot(0), 2);
        x.close(1, 0);
        x.pass(1);
        Check.is("now", x.whyNot(0), 4);
    }

    /** One that is clean at the minute 2, with an open runway that the wind keeps it from. */
    private static IcePad cleanInTheWind(int slot) {
        IcePad x = withSlots(slot);
        x.weather(0, CLEAR, 0, 60);
        x.treat(0, 0, 0, 10, 100);
        x.pass(2);
        return x;
    }

    private static void whyNotItsClock() {
        IcePad x = cleanInTheWind(0);
        x.weather(0, SNOW, 0, 0);
        x.table(0, SNOW, 2);
        Check.is("as long as it holds", x.whyNot(0), 0);
        x.table(0, SNOW, 1);
        Check.is("longer than it holds", x.whyNot(0), 3);
        x.weather(-31, SNOW, 0, 0);
        x.table(0, SNOW, 2);
        Check.is("half a minute longer", x.whyNot(0), 3);
        x.weather(-31, CLEAR, 0, 0);
        Check.is("under a clear sky", x.whyNot(0), 0);
    }

    private static void whyNotTheClosedRunway() {
        IcePad x = cleanInTheWind(0);
        x.close(1, 0);
        Check.is("closed now", x.whyNot(0), 4);
        x.pass(1);
        Check.is("closed in its last minute", x.whyNot(0), 4);
        x.pass(1);
        Check.is("open behind it", x.whyNot(0), 5);
    }

    private static void whyNotTheCodes() {
        IcePad x = cleanInTheWind(0);
        Check.is("a wind of 60", x.whyNot(0), 5);
        x.weather(0, CLEAR, 0, 31);
        Check.is("a wind of 31", x.whyNot(0), 5);
        x.weather(0, CLEAR, 0, 30);
        Check.is("a wind of 30", x.whyNot(0), 0);
        for (int third = 0; third < 3; third++) {
            x.pilot(third, 4);
            Check.is("4 at third " + third, x.whyNot(0), 5);
            x.pilot(third, 5);
            Check.is("5 at third " + third, x.whyNot(0), 0);
        }
    }

    private static void whyNotFirst() {
        IcePad x = withSlots(5, 5);
        x.weather(0, SNOW, 0, 60);
        x.table(0, SNOW, 1000);
        x.close(10, 0);
        x.treat(0, 0, 0, 10, 100);
        x.pass(4);
        x.table(0, SNOW, 1);
        Check.is("all of them", x.whyNot(1), 1);
        Check.is("all but the first", x.whyNot(0), 2);
        x.table(0, SNOW, 1000);
        Check.is("the second and the last two", x.whyNot(0), 2);
        x.pass(1);
        x.table(0, SNOW, 1);
        Check.is("the last three", x.whyNot(0), 3);
        x.table(0, SNOW, 1000);
        Check.is("the last two", x.whyNot(0), 4);
        x.pass(5);
        Check.is("the last two still", x.whyNot(0), 4);
        x.pass(1);
        Check.is("the last", x.whyNot(0), 5);
    }

    private static void whyNotNow() {
        IcePad x = cleanInTheWind(0);
        x.weather(0, CLEAR, 0, 0);
        Check.is("nothing hinders it", x.whyNot(0), 0);
        x.pass(1);
        Check.is("so it left", x.aircraftOf(0, 1), 3);
    }

    // ---- promise 20

    private static void queueIs(String when, IcePad x, int... due) {
        for (int place = 0; place < due.length; place++) {
            Check.is("queue " + when + ", place " + place, x.queue(place), due[place]);
        }
        Check.is("queue " + when + ", behind it", x.queue(due.length), IcePad.NONE);
        Check.is("queue " + when + ", far behind it", x.queue(Integer.MAX_VALUE), IcePad.NONE);
    }

    private static void queue() {
        Check.sentence("Promise 20: -1 if there are not so many", AskingTest::queueWithoutSoMany);
        Check.sentence("Promise 20: `place`: 0 for the one that would leave first", AskingTest::queueByClocks);
        Check.sentence("Promise 20: of those that are CLEAN, whether their slots have come or not",
                AskingTest::queueOfCleanOnes);
        Check.sentence("Terms: of like ones the lowest (in the queue)", AskingTest::queueOfLikeClocks);
        Check.sentence("Promise 20: Returns an aircraft of the queue.", AskingTest::queueOfTwenty);
    }

    private static void queueWithoutSoMany() {
        queueIs("of no aircraft", new IcePad());
        IcePad x = withSlots(0, 0, 0);
        queueIs("of those that wait", x);
        x.weather(0, CLEAR, 0, 60);
        x.treat(1, 0, 0, 10, 100);
        queueIs("of one on a pad", x);
        x.pass(2);
        queueIs("of one", x, 1);
        x.weather(0, CLEAR, 0, 0);
        x.pass(1);
        queueIs("of one that is gone", x);
    }

    private static void queueByClocks() {
        IcePad x = withSlots(0, 0, 0, 0);
        x.weather(0, FROST, 0, 60);
        x.treat(0, 0, 1, 10, 100);
        x.treat(1, 1, 0, 10, 100);
        x.treat(2, 2, 1, 10, 75);
        x.pass(2);
        queueIs("by what is left", x, 1, 2, 0);
        x.treat(3, 0, 1, 10, 50);
        x.pass(2);
        queueIs("with one more", x, 1, 3, 2, 0);
        x.weather(0, FROST, 0, 0);
        for (int due : new int[] {1, 3, 2, 0}) {
            int first = x.queue(0);
            Check.is("the first", first, due);
            x.pass(1);
            Check.is("left", x.aircraftOf(first, 0), IcePad.GONE);
        }
    }

    private static void queueOfCleanOnes() {
        IcePad x = withSlots(0, 500, 0);
        x.weather(0, FROST, 0, 60);
        x.treat(0, 0, 1, 10, 100);
        x.treat(1, 1, 0, 10, 100);
        x.treat(2, 2, 2, 10, 50);
        x.pass(2);
        queueIs("with one whose slot has not come", x, 1, 2, 0);
        x.table(1, FROST, 1);
        queueIs("with one whose clock has run out, but that is CLEAN", x, 0, 1, 2);
        x.pass(1);
        queueIs("without it, when it waits", x, 1, 2);
        x.cancel(1);
        queueIs("without a cancelled one", x, 2);
    }

    private static void queueOfLikeClocks() {
        IcePad x = withSlots(0, 0, 0);
        x.weather(0, CLEAR, 0, 60);
        x.treat(2, 0, 0, 10, 50);
        x.treat(1, 1, 0, 10, 75);
        x.treat(0, 2, 0, 10, 100);
        x.pass(2);
        queueIs("of like clocks", x, 0, 1, 2);
        x.weather(0, SNOW, 0, 60);
        queueIs("in other weather", x, 2, 1, 0);
    }

    private static void queueOfTwenty() {
        IcePad x = Nights.cleanFleet();
        int[] all = new int[20];
        for (int i = 0; i < 20; i++) {
            all[i] = i;
        }
        queueIs("of all 20, in the order of their treatment", x, all);
    }

    // ---- promise 21

    private static void sumsAre(String when, IcePad x, int... due) {
        for (int what = 0; what < due.length; what++) {
            Check.is("sum " + what + " " + when, x.sum(what), due[what]);
        }
    }

    private static void sum() {
        Check.sentence("Promise 21: Returns a sum of litres, or of depth.", () -> {
            IcePad x = new IcePad();
            sumsAre("at first", x, 0, 0, 0, 0, 0, 0, 0);
            x.supply(0, 400);
            x.supply(1, 300);
            for (int i = 0; i < 3; i++) {
                x.aircraft(20, 0, 100);
            }
            x.treat(0, 0, 0, 103, 50);
            x.treat(1, 1, 1, 57, 100);
            x.cancel(1);
            sumsAre("when treated", x, 700, 540, 31, 129, 0, 0, 0);
            x.weather(0, SNOW, 6, 0);
            x.pass(3);
            x.release(20);
            x.close(1, 1);
            x.pass(1);
            sumsAre("later", x, 700, 540, 31, 97, 12, 20, 40);
            x.treat(2, 0, 0, 10, 50);
            sumsAre("with one more", x, 700, 530, 33, 105, 12, 20, 40);
        });
        Check.sentence("Promise 21: 2 what is on aircraft, gone or not", () -> {
            IcePad x = withSlots(0, 0);
            x.treat(0, 0, 0, 100, 100);
            x.treat(1, 1, 0, 200, 100);
            Check.is("on pads", x.sum(2), 60);
            x.cancel(1);
            Check.is("cancelled", x.sum(2), 60);
            x.pass(3);
            Check.is("one is gone", x.aircraftOf(0, 0), IcePad.GONE);
            Check.is("gone", x.sum(2), 60);
        });
    }
}
