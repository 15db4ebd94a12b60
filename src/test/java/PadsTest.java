/** Promises 6 to 10, 17 and 18, and what the document's "Fluids, pads" tells of treatments and clocks. */
public final class PadsTest {
    private static final int CLEAR = 0, SNOW = 1, RAIN = 2, FROST = 3;

    public static void main(String[] args) {
        tanks();
        table();
        fleet();
        treating();
        litres();
        clocks();
        cancelling();
        aircraftOf();
        Check.end();
    }

    /** An airport with 10000 litres in each tank, and one aircraft for each span, whose slots are far off. */
    private static IcePad with(int... spans) {
        IcePad x = new IcePad();
        for (int fluid = 0; fluid < 3; fluid++) {
            x.supply(fluid, 10000);
        }
        for (int span : spans) {
            x.aircraft(span, 2000, 2000);
        }
        return x;
    }

    private static void stateIs(String what, IcePad x, int aircraft, int due) {
        Check.is(what + ": aircraft " + aircraft, x.aircraftOf(aircraft, 0), due);
    }

    // ---- promise 6

    private static void tanks() {
        Check.sentence("Terms: There are the fluids 0, 1 and 2, each with a tank, empty at first.", () -> {
            IcePad x = new IcePad();
            Check.is("in the tanks at first", x.sum(1), 0);
            for (int fluid = 0; fluid < 3; fluid++) {
                Check.is("the first litre of fluid " + fluid, x.supply(fluid, 1), 1);
            }
            Check.is("in the tanks", x.sum(1), 3);
        });
        Check.sentence("Promise 6: Returns what is in it then.", () -> {
            IcePad x = new IcePad();
            Check.is("the least", x.supply(0, 1), 1);
            Check.is("more", x.supply(0, 9999), 10000);
            Check.is("the most of another", x.supply(2, 10000), 10000);
            x.aircraft(10, 0, 9);
            x.treat(0, 0, 2, 100, 50);
            Check.is("when some was taken", x.supply(2, 1), 9901);
        });
        Check.sentence("Promise 6: if it would be above 100000", () -> {
            IcePad x = new IcePad();
            for (int i = 1; i <= 10; i++) {
                Check.is("up to 100000", x.supply(1, 10000), 10000 * i);
            }
            Check.notNow("1 litre more", x, () -> x.supply(1, 1));
            x.aircraft(10, 0, 9);
            x.treat(0, 0, 1, 100, 50);
            Check.notNow("1 litre more than was taken", x, () -> x.supply(1, 101));
            Check.is("what was taken", x.supply(1, 100), 100000);
            Check.is("all that was supplied is above 100000", x.sum(0), 100100);
        });
    }

    // ---- promise 7

    private static void table() {
        Check.sentence("Terms: at first 20 and 40 times the number of the fluid, together", () -> {
            int[] due = {20, 60, 100};
            for (int fluid = 0; fluid < 3; fluid++) {
                Check.is("fluid " + fluid + " in SNOW", new IcePad().table(fluid, SNOW, 1), due[fluid]);
                Check.is("fluid " + fluid + " in FROST", new IcePad().table(fluid, FROST, 1), due[fluid]);
            }
        });
        Check.sentence("Terms: for RAIN 30 less, but at least 5", () -> {
            int[] due = {5, 30, 70};
            for (int fluid = 0; fluid < 3; fluid++) {
                Check.is("fluid " + fluid + " in RAIN", new IcePad().table(fluid, RAIN, 1), due[fluid]);
            }
        });
        Check.sentence("Promise 7: Returns what it was.", () -> {
            IcePad x = new IcePad();
            Check.is("at first", x.table(1, RAIN, 1), 30);
            Check.is("the least", x.table(1, RAIN, 1000), 1);
            Check.is("the most", x.table(1, RAIN, 1000), 1000);
            Check.is("the others are as they were",
                    x.table(1, SNOW, 9) + x.table(1, FROST, 9) + x.table(0, RAIN, 9) + x.table(2, RAIN, 9), 195);
        });
        Check.sentence("Promise 7: Sets the table for a fluid and a fall.", () -> {
            IcePad x = with(30);
            x.weather(0, RAIN, 0, 0);
            x.treat(0, 0, 1, 10, 100);
            Check.is("the clock by the table at first", x.clock(0), 30.0);
            x.table(1, RAIN, 1000);
            Check.is("the clock by the most", x.clock(0), 1000.0);
            x.table(1, RAIN, 1);
            Check.is("the clock by the least", x.clock(0), 1.0);
        });
    }

    // ---- promise 8

    private static void fleet() {
        Check.sentence("Terms: There are at most 20 aircraft, numbered from 0", () -> {
            IcePad x = new IcePad();
            for (int i = 0; i < 20; i++) {
                Check.is("the next number", x.aircraft(10 + i, i, 100), i);
                Check.is("it waits", x.aircraftOf(i, 0), IcePad.WAITS);
                int behind = i + 1;
                Check.noIndex("there is none behind it", x, () -> x.aircraftOf(behind, 0));
            }
            Check.notNow("one more", x, () -> x.aircraft(10, 0, 100));
        });
        Check.sentence("Promise 8: `slot`: 0 to 2000: in so many minutes", () -> {
            Check.is("a slot of now", leftWith(0, 0), 2);
            Check.is("a slot in 2 minutes", leftWith(0, 2), 2);
            Check.is("a slot in 3 minutes", leftWith(0, 3), 3);
            Check.is("a slot of now, told at 7", leftWith(7, 0), 9);
            Check.is("a slot in 3 minutes, told at 7", leftWith(7, 3), 10);
            Check.is("a slot in 1999 minutes, told at 7", leftWith(7, 1999), 2006);
            Check.is("a slot in 2000 minutes, told at 7", leftWith(7, 2000), 2007);
        });
        Check.sentence("Promise 8: `duty`: 0 to 2000: in so many minutes", () -> {
            for (int duty : new int[] {0, 1, 50, 2000}) {
                for (int told : new int[] {0, 7}) {
                    IcePad x = Check.after(told + 1, 0, CLEAR, 0);
                    x.aircraft(10, 2000, duty);
                    passAll(x, duty);
                    stateIs("with its duty of " + duty, x, 0, IcePad.WAITS);
                    x.pass(1);
                    stateIs("behind its duty of " + duty, x, 0, IcePad.CANCELLED);
                }
            }
        });
    }

    private static void passAll(IcePad x, int minutes) {
        for (int left = minutes; left > 0; left -= 500) {
            x.pass(Math.min(left, 500));
        }
    }

    /** The minute in which an aircraft left that was told and treated at once. */
    private static int leftWith(int told, int slot) {
        IcePad x = with();
        passAll(x, told);
        x.aircraft(10, slot, 2000);
        x.treat(0, 0, 0, 10, 100);
        passAll(x, 2000);
        return x.aircraftOf(0, 1);
    }

    // ---- promise 9

    private static void treating() {
        Check.sentence("Terms: To treat one that WAITS or is CLEAN is", PadsTest::treatAgain);
        Check.sentence("Terms: There are the pads 0 to 2, for spans up to 40, 60 and 80.", PadsTest::padsBySpan);
        Check.sentence("Terms: it is on a pad that is free", PadsTest::onePadEach);
        Check.sentence("Terms: for 2 minutes and one for each 100 litres, cut, together", () -> {
            int[] litres = {10, 99, 100, 199, 200, 201, 1899, 1900, 1999, 2000};
            int[] minutes = {2, 2, 3, 3, 4, 4, 20, 21, 21, 22};
            for (int i = 0; i < litres.length; i++) {
                IcePad x = with(10);
                x.pass(5);
                Check.is("minutes of " + litres[i], x.treat(0, 0, 2, litres[i], 50), 5 + minutes[i]);
                x.pass(minutes[i] - 1);
                stateIs("a minute ahead", x, 0, IcePad.ON_PAD);
                x.pass(1);
                stateIs("behind these minutes", x, 0, IcePad.CLEAN);
            }
        });
        Check.sentence("Promise 9: Returns the minute in which it is CLEAN.", () -> {
            IcePad x = with(10, 10);
            Check.is("at the minute 0", x.treat(0, 0, 0, 10, 50), 2);
            x.pass(1);
            Check.is("at the minute 1", x.treat(1, 1, 0, 2000, 50), 23);
        });
    }

    private static void treatAgain() {
        IcePad x = with(20);
        x.weather(-10, SNOW, 0, 0);
        stateIs("at first", x, 0, IcePad.WAITS);
        x.treat(0, 0, 0, 100, 100);
        stateIs("treated", x, 0, IcePad.ON_PAD);
        Check.notNow("treat one on a pad", x, () -> x.treat(0, 1, 0, 10, 100));
        x.pass(5);
        stateIs("behind that", x, 0, IcePad.CLEAN);
        Check.is("treat a clean one", x.treat(0, 1, 2, 50, 50), 7);
        Check.is("on the other pad", x.aircraftOf(0, 4), 1);
        Check.is("a new clock, of the new fluid and strength", x.clock(0), 50.0);
        x.pass(52);
        stateIs("run out", x, 0, IcePad.WAITS);
        Check.is("treat one that waits again", x.treat(0, 0, 0, 10, 75), 59);
        Check.is("a third clock", x.clock(0), 15.0);
    }

    private static void padsBySpan() {
        int[] widest = {40, 60, 80};
        for (int pad = 0; pad < 3; pad++) {
            int narrow = pad;
            IcePad x = with(10, widest[pad], Math.min(widest[pad] + 1, 80));
            Check.is("the least span on pad " + pad, x.treat(0, pad, 0, 10, 50), 2);
            x.pass(2);
            if (widest[pad] < 80) {
                Check.notNow("too wide for pad " + pad, x, () -> x.treat(2, narrow, 0, 10, 50));
            }
            Check.is("the widest on pad " + pad, x.treat(1, pad, 0, 10, 50), 4);
        }
    }

    private static void onePadEach() {
        IcePad x = with(20, 20, 20, 20);
        for (int pad = 0; pad < 3; pad++) {
            Check.is("free at first is pad " + pad, x.treat(pad, pad, 0, 10, 50), 2);
            Check.is("its pad", x.aircraftOf(pad, 4), pad);
        }
        for (int pad = 0; pad < 3; pad++) {
            int taken = pad;
            Check.notNow("taken is pad " + pad, x, () -> x.treat(3, taken, 0, 10, 50));
        }
        x.pass(1);
        Check.notNow("taken a minute ahead", x, () -> x.treat(3, 1, 0, 10, 50));
        x.pass(1);
        Check.is("free behind the treatment", x.treat(3, 1, 0, 10, 50), 4);
    }

    private static void litres() {
        Check.sentence("Terms: Of the litres 20 hundredths, cut, stay on it, the rest goes into the basin.", () -> {
            int[] litres = {10, 14, 15, 19, 20, 24, 25, 99, 100, 1999, 2000};
            int[] stay = {2, 2, 3, 3, 4, 4, 5, 19, 20, 399, 400};
            for (int i = 0; i < litres.length; i++) {
                IcePad x = with(10);
                x.treat(0, 0, 2, litres[i], 50);
                Check.is("what stays of " + litres[i], x.sum(2), stay[i]);
                Check.is("what is on it", x.aircraftOf(0, 3), stay[i]);
                Check.is("what runs off", x.sum(3), litres[i] - stay[i]);
                Check.is("what is left in the tanks", x.sum(1), 30000 - litres[i]);
            }
        });
        Check.sentence("Terms: it takes litres of a fluid, at a strength of 50, 75 or 100 hundredths", () -> {
            for (int strength : new int[] {50, 75, 100}) {
                IcePad x = new IcePad();
                x.supply(1, 100);
                x.aircraft(10, 100, 100);
                x.treat(0, 0, 1, 100, strength);
                Check.is("as many litres at " + strength, x.sum(1), 0);
                x.weather(0, SNOW, 0, 0);
                Check.is("a clock of " + strength, x.clock(0), 60 * strength / 100.0);
            }
        });
    }

    // ---- promise 18

    private static void clocks() {
        Check.sentence("Terms: its clock begins with the minute of now", PadsTest::clockBegins);
        Check.sentence("Terms: times the strength by 100, times 1 from -30 on, 0.75 from -100 on, 0.5 below", () -> {
            int[] temperatures = {400, 0, -29, -30, -31, -99, -100, -101, -400};
            double[] factors = {1.0, 1.0, 1.0, 1.0, 0.75, 0.75, 0.75, 0.5, 0.5};
            for (int strength : new int[] {50, 75, 100}) {
                IcePad x = with(10);
                x.treat(0, 0, 2, 10, strength);
                x.table(2, FROST, 333);
                for (int i = 0; i < temperatures.length; i++) {
                    x.weather(temperatures[i], FROST, 0, 0);
                    double due = 333 * strength * factors[i] / 100;
                    Check.is("at " + temperatures[i] + " with " + strength, x.clock(0), due);
                }
            }
        });
        Check.sentence("Terms: with the fall CLEAR for 1000000 minutes", () -> {
            for (int strength : new int[] {50, 100}) {
                IcePad x = with(10);
                x.treat(0, 0, 0, 10, strength);
                for (int temperature : new int[] {400, -30, -31, -101}) {
                    x.weather(temperature, CLEAR, 30, 0);
                    Check.is("at " + temperature + " with " + strength, x.clock(0), 1000000.0);
                }
            }
        });
        Check.sentence("Terms: for the minutes of the table for the fluid and the fall of now", () -> {
            IcePad x = with(10);
            x.treat(0, 0, 1, 10, 100);
            double[] due = {1000000.0, 60.0, 30.0, 60.0};
            for (int fall = CLEAR; fall <= FROST; fall++) {
                x.weather(0, fall, 0, 0);
                Check.is("in the fall " + fall, x.clock(0), due[fall]);
            }
        });
        Check.sentence("Promise 18: Returns that; below 0 if it has run out.", PadsTest::clockRunsBelowZero);
        Check.sentence("Promise 18: if it was not treated", PadsTest::clockOfUntreated);
    }

    private static void clockBegins() {
        IcePad x = with(10);
        x.weather(0, SNOW, 0, 0);
        x.pass(10);
        x.treat(0, 0, 1, 300, 100);
        Check.is("in the minute of the treatment", x.clock(0), 60.0);
        x.pass(1);
        Check.is("on the pad", x.clock(0), 59.0);
        x.pass(4);
        Check.is("clean", x.clock(0), 55.0);
    }

    private static void clockRunsBelowZero() {
        IcePad x = with(10);
        x.weather(0, RAIN, 0, 0);
        x.treat(0, 0, 1, 10, 75);
        Check.is("at first", x.clock(0), 22.5);
        x.pass(22);
        Check.is("above 0", x.clock(0), 0.5);
        x.pass(1);
        Check.is("below 0", x.clock(0), -0.5);
        x.pass(500);
        Check.is("far below 0", x.clock(0), -500.5);
        IcePad gone = with();
        gone.aircraft(10, 0, 2000);
        gone.treat(0, 0, 1, 10, 100);
        gone.pass(2);
        stateIs("then", gone, 0, IcePad.GONE);
        gone.weather(0, SNOW, 0, 0);
        gone.pass(100);
        Check.is("of one that is gone", gone.clock(0), -42.0);
    }

    private static void clockOfUntreated() {
        IcePad x = with(10, 10);
        Check.notNow("of one that waits", x, () -> x.clock(0));
        x.cancel(1);
        Check.notNow("of a cancelled one", x, () -> x.clock(1));
        x.treat(0, 0, 0, 10, 100);
        Check.is("of one just treated", x.clock(0), 1000000.0);
        x.cancel(0);
        Check.is("of one treated, then cancelled", x.clock(0), 1000000.0);
    }

    // ---- promise 10

    private static void cancelling() {
        Check.sentence("Promise 10: Returns what it was.", () -> {
            IcePad x = with(20, 20, 20);
            Check.is("one that waits", x.cancel(0), IcePad.WAITS);
            x.treat(1, 0, 0, 100, 100);
            Check.is("one on a pad", x.cancel(1), IcePad.ON_PAD);
            x.treat(2, 1, 0, 10, 100);
            x.pass(2);
            Check.is("one that is clean", x.cancel(2), IcePad.CLEAN);
        });
        Check.sentence("Promise 10: Cancels an aircraft.", () -> {
            IcePad x = with(20, 20, 20);
            x.treat(1, 0, 0, 100, 100);
            x.cancel(1);
            stateIs("cancelled", x, 1, IcePad.CANCELLED);
            stateIs("another", x, 0, IcePad.WAITS);
            Check.is("it has no pad", x.aircraftOf(1, 4), IcePad.NONE);
            Check.is("its litres stay on it", x.aircraftOf(1, 3), 20);
            Check.is("and count", x.sum(2), 20);
            Check.is("its pad is free", x.treat(2, 0, 0, 10, 100), 2);
            x.pass(3);
            stateIs("not clean later", x, 1, IcePad.CANCELLED);
            Check.is("it is not in the queue", x.queue(1), IcePad.NONE);
        });
        Check.sentence("Promise 10: if it is GONE or CANCELLED", () -> {
            IcePad x = with(20);
            x.aircraft(20, 0, 2000);
            x.treat(1, 0, 0, 10, 100);
            x.pass(2);
            stateIs("then", x, 1, IcePad.GONE);
            Check.notNow("one that is gone", x, () -> x.cancel(1));
            x.cancel(0);
            Check.notNow("a cancelled one", x, () -> x.cancel(0));
        });
    }

    // ---- promise 17

    private static void aircraftOf() {
        Check.sentence("Promise 17: Returns something of an aircraft.", () -> {
            IcePad x = with(10);
            x.aircraft(60, 4, 20);
            asked("told", x, IcePad.WAITS, -1, 0, 0, -1);
            x.treat(1, 1, 1, 120, 50);
            asked("on a pad", x, IcePad.ON_PAD, -1, 1, 24, 1);
            x.pass(3);
            asked("clean", x, IcePad.CLEAN, -1, 1, 24, -1);
            x.treat(1, 2, 1, 10, 50);
            asked("on a pad again", x, IcePad.ON_PAD, -1, 2, 26, 2);
            x.pass(2);
            asked("gone", x, IcePad.GONE, 5, 2, 26, -1);
            x.pass(50);
            asked("gone for long", x, IcePad.GONE, 5, 2, 26, -1);
        });
        Check.sentence("Promise 17: 1 the minute in which it left, -1 if it did not", () -> {
            IcePad x = with(10);
            Check.is("waits", x.aircraftOf(0, 1), -1);
            x.treat(0, 0, 0, 10, 50);
            x.cancel(0);
            x.pass(5);
            Check.is("cancelled", x.aircraftOf(0, 1), -1);
        });
        Check.sentence("Promise 17: 4 its pad, -1 if it is not ON_PAD", () -> {
            for (int pad = 0; pad < 3; pad++) {
                IcePad x = with(10);
                Check.is("waits", x.aircraftOf(0, 4), -1);
                x.treat(0, pad, 0, 10, 50);
                Check.is("on it", x.aircraftOf(0, 4), pad);
                x.pass(2);
                Check.is("clean", x.aircraftOf(0, 4), -1);
            }
        });
    }

    private static void asked(String when, IcePad x, int... due) {
        for (int what = 0; what < due.length; what++) {
            Check.is(when + ": " + what, x.aircraftOf(1, what), due[what]);
        }
    }
}
