/** Promises 6 to 10: supply, table, aircraft, treat, cancel. */
public final class FluidsAndPadsTest {
    private static final int CLEAR = 0, SNOW = 1, RAIN = 2, FROST = 3;

    public static void main(String[] args) {
        promise6Supply();
        promise7TableAtFirst();
        promise7Table();
        promise8Aircraft();
        promise8SlotAndDutyCountFromNow();
        promise9Treat();
        promise9HowLongAndHowMuch();
        promise9Pads();
        promise9TreatAgain();
        promise9Refusals();
        promise10Cancel();
        Check.end();
    }

    /** An airport with full enough tanks, and one aircraft for each span. */
    private static IcePad with(int... spans) {
        IcePad x = new IcePad();
        for (int fluid = 0; fluid < 3; fluid++) {
            x.supply(fluid, 10000);
        }
        for (int span : spans) {
            x.aircraft(span, 2000, 2000);
        }
        return x;
    }

    private static void promise6Supply() {
        IcePad x = new IcePad();
        Check.is("supply", x.supply(0, 1), 1);
        Check.is("supply more", x.supply(0, 9999), 10000);
        Check.is("another tank", x.supply(2, 10000), 10000);
        for (int i = 2; i <= 10; i++) {
            Check.is("supply " + i, x.supply(2, 10000), 10000 * i);
        }
        Check.notNow("supply a full tank", x, () -> x.supply(2, 1));
        Check.is("all that was supplied", x.sum(0), 110000);
        Check.is("in the tanks", x.sum(1), 110000);
        x.aircraft(10, 0, 9);
        x.treat(0, 0, 2, 100, 50);
        Check.notNow("supply just too much", x, () -> x.supply(2, 101));
        Check.is("supply just enough", x.supply(2, 100), 100000);
        Check.noIndex("supply fluid -1", x, () -> x.supply(-1, 5));
        Check.noIndex("supply fluid 3", x, () -> x.supply(3, 5));
        Check.noArgument("supply 0", x, () -> x.supply(0, 0));
        Check.noArgument("supply 10001", x, () -> x.supply(0, 10001));
        Check.noArgument("supply far off", x, () -> x.supply(0, Integer.MAX_VALUE));
        Check.noIndex("supply with both wrong", x, () -> x.supply(3, 0));
        Check.noArgument("supply a full tank wrongly", x, () -> x.supply(2, 10001));
    }

    private static void promise7TableAtFirst() {
        IcePad x = new IcePad();
        int[][] due = {{20, 5, 20}, {60, 30, 60}, {100, 70, 100}};
        for (int fluid = 0; fluid < 3; fluid++) {
            for (int fall = SNOW; fall <= FROST; fall++) {
                Check.is("table at first " + fluid + " " + fall, x.table(fluid, fall, 1), due[fluid][fall - 1]);
            }
        }
    }

    private static void promise7Table() {
        IcePad x = with(30);
        x.weather(0, RAIN, 0, 0);
        x.treat(0, 0, 1, 10, 100);
        Check.is("the clock by the table at first", x.clock(0), 30.0);
        Check.is("table", x.table(1, RAIN, 1000), 30);
        Check.is("the clock by the new table", x.clock(0), 1000.0);
        Check.is("what it was", x.table(1, RAIN, 1), 1000);
        Check.is("others are as they were", x.table(1, SNOW, 9) + x.table(0, RAIN, 9) + x.table(2, RAIN, 9), 135);
        Check.is("the clock", x.clock(0), 1.0);
        Check.noIndex("table fluid -1", x, () -> x.table(-1, 1, 1));
        Check.noIndex("table fluid 3", x, () -> x.table(3, 1, 1));
        Check.noArgument("table fall 0", x, () -> x.table(1, 0, 5));
        Check.noArgument("table fall 4", x, () -> x.table(1, 4, 5));
        Check.noArgument("table fall -1", x, () -> x.table(1, -1, 5));
        Check.noArgument("table minutes 0", x, () -> x.table(1, RAIN, 0));
        Check.noArgument("table minutes 1001", x, () -> x.table(1, RAIN, 1001));
        Check.noIndex("table with all wrong", x, () -> x.table(3, 0, 0));
    }

    private static void promise8Aircraft() {
        IcePad x = new IcePad();
        Check.noArgument("span 9", x, () -> x.aircraft(9, 0, 0));
        Check.noArgument("span 81", x, () -> x.aircraft(81, 0, 0));
        Check.noArgument("slot -1", x, () -> x.aircraft(10, -1, 0));
        Check.noArgument("slot 2001", x, () -> x.aircraft(10, 2001, 0));
        Check.noArgument("duty -1", x, () -> x.aircraft(10, 0, -1));
        Check.noArgument("duty 2001", x, () -> x.aircraft(10, 0, 2001));
        Check.is("aircraft 0", x.aircraft(10, 0, 0), 0);
        Check.is("aircraft 1", x.aircraft(80, 2000, 2000), 1);
        Check.is("it waits", x.aircraftOf(1, 0), IcePad.WAITS);
        for (int i = 2; i < 20; i++) {
            Check.is("aircraft " + i, x.aircraft(20, 5, 10), i);
        }
        x.cancel(7);
        x.pass(1);
        Check.notNow("aircraft 20", x, () -> x.aircraft(20, 5, 10));
        Check.noArgument("aircraft 20, wrongly", x, () -> x.aircraft(20, 5, 2001));
        Check.noIndex("there is no aircraft 20", x, () -> x.aircraftOf(20, 0));
    }

    private static void promise8SlotAndDutyCountFromNow() {
        IcePad x = new IcePad();
        x.supply(0, 100);
        x.pass(100);
        x.aircraft(10, 5, 50);
        x.aircraft(10, 0, 7);
        x.treat(0, 0, 0, 10, 100);
        x.pass(4);
        Check.is("ahead of its slot", x.aircraftOf(0, 0), IcePad.CLEAN);
        x.pass(1);
        Check.is("it left with its slot", x.aircraftOf(0, 1), 105);
        x.pass(2);
        Check.is("its duty is now", x.aircraftOf(1, 0), IcePad.WAITS);
        x.pass(1);
        Check.is("its duty was ahead of now", x.aircraftOf(1, 0), IcePad.CANCELLED);
    }

    private static void promise9Treat() {
        IcePad x = with(40);
        x.pass(10);
        Check.is("treat", x.treat(0, 0, 1, 230, 75), 14);
        Check.is("on the pad", x.aircraftOf(0, 0), IcePad.ON_PAD);
        Check.is("its pad", x.aircraftOf(0, 4), 0);
        Check.is("its treatments", x.aircraftOf(0, 2), 1);
        Check.is("the litres on it", x.aircraftOf(0, 3), 46);
        Check.is("in the tanks", x.sum(1), 30000 - 230);
        Check.is("on aircraft", x.sum(2), 46);
        Check.is("in the basin", x.sum(3), 184);
        x.weather(0, FROST, 0, 0);
        Check.is("its clock began", x.clock(0), 45.0);
        x.pass(3);
        Check.is("still on the pad", x.aircraftOf(0, 0), IcePad.ON_PAD);
        x.pass(1);
        Check.is("clean", x.aircraftOf(0, 0), IcePad.CLEAN);
        Check.is("no pad", x.aircraftOf(0, 4), IcePad.NONE);
        Check.is("its clock", x.clock(0), 41.0);
    }

    private static void promise9HowLongAndHowMuch() {
        int[] litres = {10, 14, 15, 99, 100, 199, 200, 1999, 2000};
        int[] minutes = {2, 2, 2, 2, 3, 3, 4, 21, 22};
        int[] stays = {2, 2, 3, 19, 20, 39, 40, 399, 400};
        for (int i = 0; i < litres.length; i++) {
            IcePad x = with(40);
            Check.is("minutes of " + litres[i], x.treat(0, 0, 2, litres[i], 50), minutes[i]);
            Check.is("what stays of " + litres[i], x.sum(2), stays[i]);
            Check.is("what runs off of " + litres[i], x.sum(3), litres[i] - stays[i]);
        }
    }

    private static void promise9Pads() {
        int[] widest = {40, 60, 80};
        for (int pad = 0; pad < 3; pad++) {
            IcePad x = with(widest[pad], Math.min(widest[pad] + 1, 80), 10);
            int free = pad;
            if (widest[pad] < 80) {
                Check.notNow("too wide for pad " + pad, x, () -> x.treat(1, free, 0, 10, 50));
            }
            Check.is("wide enough is pad " + pad, x.treat(0, pad, 0, 10, 50), 2);
            Check.notNow("not free is pad " + pad, x, () -> x.treat(2, free, 0, 10, 50));
            x.pass(1);
            Check.notNow("not free yet is pad " + pad, x, () -> x.treat(2, free, 0, 10, 50));
            x.pass(1);
            Check.is("free again is pad " + pad, x.treat(2, pad, 0, 10, 50), 4);
        }
        IcePad x = with(20, 20, 20);
        x.treat(0, 0, 0, 10, 50);
        x.treat(1, 1, 0, 10, 50);
        Check.is("three pads at once", x.treat(2, 2, 0, 10, 50), 2);
    }

    private static void promise9TreatAgain() {
        IcePad x = with(20);
        x.weather(-10, SNOW, 0, 0);
        x.treat(0, 0, 0, 100, 100);
        Check.notNow("treat one on a pad", x, () -> x.treat(0, 1, 0, 10, 100));
        x.pass(5);
        Check.is("clean", x.aircraftOf(0, 0), IcePad.CLEAN);
        Check.is("treat a clean one", x.treat(0, 1, 2, 50, 50), 7);
        Check.is("on the other pad", x.aircraftOf(0, 4), 1);
        Check.is("twice", x.aircraftOf(0, 2), 2);
        Check.is("litres of both", x.aircraftOf(0, 3), 30);
        Check.is("a new clock, of the new fluid and strength", x.clock(0), 50.0);
        x.pass(52);
        Check.is("run out", x.aircraftOf(0, 0), IcePad.WAITS);
        Check.is("treat one that waits again", x.treat(0, 0, 0, 10, 75), 59);
        Check.is("a third clock", x.clock(0), 15.0);
    }

    private static void promise9Refusals() {
        IcePad x = new IcePad();
        x.supply(1, 50);
        x.aircraft(50, 0, 1000);
        Check.noIndex("treat aircraft -1", x, () -> x.treat(-1, 1, 1, 10, 50));
        Check.noIndex("treat aircraft 1", x, () -> x.treat(1, 1, 1, 10, 50));
        Check.noIndex("treat on pad -1", x, () -> x.treat(0, -1, 1, 10, 50));
        Check.noIndex("treat on pad 3", x, () -> x.treat(0, 3, 1, 10, 50));
        Check.noIndex("treat with fluid -1", x, () -> x.treat(0, 1, -1, 10, 50));
        Check.noIndex("treat with fluid 3", x, () -> x.treat(0, 1, 3, 10, 50));
        Check.noIndex("treat with all wrong", x, () -> x.treat(0, 1, 3, 0, 0));
        Check.noArgument("treat with 9", x, () -> x.treat(0, 1, 1, 9, 50));
        Check.noArgument("treat with 2001", x, () -> x.treat(0, 1, 1, 2001, 50));
        for (int strength : new int[] {-50, 0, 25, 49, 51, 74, 76, 99, 101, 150}) {
            Check.noArgument("treat at " + strength, x, () -> x.treat(0, 1, 1, 10, strength));
        }
        Check.noArgument("treat too wide, wrongly", x, () -> x.treat(0, 0, 1, 10, 60));
        Check.notNow("treat too wide", x, () -> x.treat(0, 0, 1, 10, 50));
        Check.notNow("treat with more than there is", x, () -> x.treat(0, 1, 1, 51, 50));
        Check.notNow("treat from an empty tank", x, () -> x.treat(0, 1, 0, 10, 50));
        Check.is("treat with all there is", x.treat(0, 1, 1, 50, 50), 2);
        Check.is("the tank is empty", x.sum(1), 0);
        x.supply(1, 50);
        x.pass(2);
        Check.is("it is gone", x.aircraftOf(0, 0), IcePad.GONE);
        Check.notNow("treat one that is gone", x, () -> x.treat(0, 1, 1, 10, 50));
        x.aircraft(50, 0, 1000);
        x.cancel(1);
        Check.notNow("treat a cancelled one", x, () -> x.treat(1, 1, 1, 10, 50));
    }

    private static void promise10Cancel() {
        IcePad x = with(20, 20, 20);
        Check.is("cancel one that waits", x.cancel(0), IcePad.WAITS);
        Check.is("it is cancelled", x.aircraftOf(0, 0), IcePad.CANCELLED);
        Check.notNow("cancel it again", x, () -> x.cancel(0));
        x.treat(1, 0, 0, 100, 100);
        x.treat(2, 1, 0, 10, 100);
        Check.is("cancel one on a pad", x.cancel(1), IcePad.ON_PAD);
        Check.is("it has no pad", x.aircraftOf(1, 4), IcePad.NONE);
        Check.is("its litres stay on it", x.aircraftOf(1, 3), 20);
        Check.is("and count", x.sum(2), 22);
        Check.is("the next aircraft", x.aircraft(20, 0, 100), 3);
        Check.is("its pad is free", x.treat(3, 0, 0, 10, 100), 2);
        x.pass(3);
        Check.is("it is not clean later", x.aircraftOf(1, 0), IcePad.CANCELLED);
        Check.is("cancel a clean one", x.cancel(2), IcePad.CLEAN);
        Check.is("it left the queue", x.queue(0), IcePad.NONE);
        Check.notNow("cancel one that is gone", x, () -> x.cancel(3));
        Check.noIndex("cancel -1", x, () -> x.cancel(-1));
        Check.noIndex("cancel 4", x, () -> x.cancel(4));
    }
}
