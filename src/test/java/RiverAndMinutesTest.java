/** Promises 11 to 13: permit, release, pass. */
public final class RiverAndMinutesTest {
    private static final int CLEAR = 0, SNOW = 1, RAIN = 2, FROST = 3;

    public static void main(String[] args) {
        promise11Permit();
        promise12Release();
        promise12ADay();
        promise13Minutes();
        promise13Plant();
        promise13Duty();
        promise13ClocksRunOut();
        promise13Leaving();
        promise13OrderInAMinute();
        Check.end();
    }

    /** An airport whose basin has 8000 litres, and none of whose aircraft is left. */
    private static IcePad withBasin() {
        IcePad x = new IcePad();
        x.supply(2, 10000);
        for (int i = 0; i < 5; i++) {
            x.aircraft(20, 0, 0);
            x.treat(i, 0, 2, 2000, 50);
            x.cancel(i);
        }
        return x;
    }

    private static void promise11Permit() {
        IcePad x = withBasin();
        Check.is("permit", x.permit(0), 500);
        Check.notNow("release without a permit", x, () -> x.release(1));
        Check.is("permit all", x.permit(100000), 0);
        Check.is("release much", x.release(700), 700);
        Check.is("permit less than went in", x.permit(600), 100000);
        Check.notNow("release above it", x, () -> x.release(1));
        Check.noArgument("permit -1", x, () -> x.permit(-1));
        Check.noArgument("permit 100001", x, () -> x.permit(100001));
        Check.is("the permit is as before", x.permit(701), 600);
        Check.is("release up to it", x.release(1), 701);
    }

    private static void promise12Release() {
        IcePad x = withBasin();
        Check.is("release", x.release(200), 200);
        Check.is("the basin", x.sum(3), 7800);
        Check.is("the river", x.sum(5), 200);
        Check.notNow("release above the permit", x, () -> x.release(301));
        Check.is("release up to the permit", x.release(300), 500);
        Check.notNow("release more", x, () -> x.release(1));
        x.permit(100000);
        Check.notNow("release more than there is", x, () -> x.release(7501));
        Check.notNow("release as much as may be told", x, () -> x.release(100000));
        Check.noArgument("release 0", x, () -> x.release(0));
        Check.noArgument("release -1", x, () -> x.release(-1));
        Check.noArgument("release 100001", x, () -> x.release(100001));
        Check.is("release all there is", x.release(7500), 8000);
        Check.is("the empty basin", x.sum(3), 0);
        Check.is("the river then", x.sum(5), 8000);
        IcePad empty = new IcePad();
        Check.notNow("release of an empty basin", empty, () -> empty.release(1));
    }

    private static void promise12ADay() {
        IcePad x = withBasin();
        x.release(500);
        x.pass(500);
        x.pass(500);
        Check.is("the last minute of the day", x.pass(439), 1439);
        Check.notNow("release on the same day", x, () -> x.release(1));
        x.pass(1);
        Check.is("release on the next day", x.release(499), 499);
        Check.notNow("release above its permit", x, () -> x.release(2));
        x.pass(500);
        Check.is("later on it", x.release(1), 500);
        Check.is("in the river of both days", x.sum(5), 1000);
        x.pass(500);
        x.pass(440);
        x.supply(2, 2000);
        x.aircraft(20, 0, 0);
        x.treat(5, 0, 2, 2000, 50);
        Check.is("a day on", x.release(7), 7);
    }

    private static void promise13Minutes() {
        IcePad x = new IcePad();
        Check.is("pass", x.pass(1), 1);
        Check.is("pass 500", x.pass(500), 501);
        Check.noArgument("pass 0", x, () -> x.pass(0));
        Check.noArgument("pass -1", x, () -> x.pass(-1));
        Check.noArgument("pass 501", x, () -> x.pass(501));
        Check.is("pass again", x.pass(2), 503);
    }

    private static void promise13Plant() {
        IcePad x = new IcePad();
        x.supply(0, 100);
        x.aircraft(20, 0, 100);
        x.treat(0, 0, 0, 10, 50);
        Check.is("the basin", x.sum(3), 8);
        x.pass(1);
        Check.is("3 litres less", x.sum(3), 5);
        Check.is("3 are cleaned", x.sum(4), 3);
        x.pass(2);
        Check.is("as far as there are", x.sum(3), 0);
        Check.is("all are cleaned", x.sum(4), 8);
        x.pass(1);
        Check.is("and no more", x.sum(4), 8);
    }

    private static void promise13Duty() {
        IcePad x = new IcePad();
        x.supply(2, 5000);
        x.aircraft(20, 2000, 3);
        x.aircraft(20, 2000, 3);
        x.aircraft(20, 2000, 3);
        x.treat(1, 0, 2, 10, 100);
        x.treat(2, 1, 2, 1000, 100);
        x.pass(3);
        Check.is("one waits", x.aircraftOf(0, 0), IcePad.WAITS);
        Check.is("one is clean", x.aircraftOf(1, 0), IcePad.CLEAN);
        Check.is("one is on a pad", x.aircraftOf(2, 0), IcePad.ON_PAD);
        x.pass(1);
        for (int i = 0; i < 3; i++) {
            Check.is("cancelled is " + i, x.aircraftOf(i, 0), IcePad.CANCELLED);
        }
        Check.is("none is clean", x.queue(0), IcePad.NONE);
        x.aircraft(20, 0, 100);
        Check.is("the pad is free", x.treat(3, 1, 2, 10, 100), 6);
        x.pass(200);
        Check.is("one that is gone stays gone", x.aircraftOf(3, 0), IcePad.GONE);
    }

    private static void promise13ClocksRunOut() {
        IcePad x = new IcePad();
        x.supply(0, 5000);
        x.aircraft(20, 1000, 2000);
        x.weather(0, SNOW, 0, 0);
        x.table(0, SNOW, 6);
        x.treat(0, 0, 0, 10, 100);
        x.pass(6);
        Check.is("just as long as it holds", x.clock(0), 0.0);
        Check.is("is clean", x.aircraftOf(0, 0), IcePad.CLEAN);
        x.pass(1);
        Check.is("more than it holds", x.clock(0), -1.0);
        Check.is("waits", x.aircraftOf(0, 0), IcePad.WAITS);
        x.table(0, SNOW, 1000);
        x.pass(1);
        Check.is("and is not clean by a longer clock", x.aircraftOf(0, 0), IcePad.WAITS);
        x.table(0, SNOW, 1);
        Check.is("a clock of 1", x.treat(0, 0, 0, 300, 100), 13);
        x.pass(4);
        Check.is("a run out clock does not end a treatment", x.aircraftOf(0, 0), IcePad.ON_PAD);
        x.pass(1);
        Check.is("but what follows", x.aircraftOf(0, 0), IcePad.WAITS);
    }

    private static void promise13Leaving() {
        IcePad x = new IcePad();
        for (int fluid = 0; fluid < 3; fluid++) {
            x.supply(fluid, 1000);
        }
        for (int i = 0; i < 5; i++) {
            x.aircraft(20, i == 3 ? 20 : 0, 500);
        }
        x.weather(0, FROST, 0, 31);
        x.treat(0, 0, 2, 10, 100);
        x.treat(1, 1, 1, 10, 100);
        x.treat(2, 2, 1, 10, 100);
        x.pass(2);
        x.treat(3, 0, 0, 10, 100);
        x.treat(4, 1, 0, 10, 50);
        x.pass(2);
        Check.is("none left in the wind", x.queue(4), 0);
        x.weather(0, FROST, 0, 30);
        x.pass(1);
        Check.is("the least clock leaves", x.aircraftOf(4, 1), 5);
        Check.is("one a minute", x.queue(3), 0);
        x.pass(1);
        Check.is("of like clocks the lowest", x.aircraftOf(1, 1), 6);
        Check.is("not ahead of its slot", x.aircraftOf(3, 0), IcePad.CLEAN);
        x.close(1, 0);
        x.pass(1);
        Check.is("none leaves a closed runway", x.aircraftOf(2, 0), IcePad.CLEAN);
        x.pass(2);
        Check.is("then the next", x.aircraftOf(2, 1), 8);
        Check.is("and the next", x.aircraftOf(0, 1), 9);
        x.pass(11);
        Check.is("and with its slot the last", x.aircraftOf(3, 1), 20);
        Check.is("it is gone", x.aircraftOf(3, 0), IcePad.GONE);
    }

    private static void promise13OrderInAMinute() {
        IcePad x = new IcePad();
        x.supply(0, 5000);
        x.aircraft(20, 0, 1);
        x.treat(0, 0, 0, 10, 100);
        x.pass(2);
        Check.is("clean, then cancelled, ahead of leaving", x.aircraftOf(0, 0), IcePad.CANCELLED);
        x.aircraft(20, 0, 2);
        x.treat(1, 0, 0, 10, 100);
        x.pass(2);
        Check.is("clean, and left with the last minute of its duty", x.aircraftOf(1, 1), 4);
        x.weather(0, SNOW, 0, 0);
        x.table(0, SNOW, 1);
        x.aircraft(20, 0, 500);
        x.treat(2, 0, 0, 10, 100);
        x.pass(2);
        Check.is("clean, and run out, ahead of leaving", x.aircraftOf(2, 0), IcePad.WAITS);
        runwayComesAheadOfLeaving();
    }

    private static void runwayComesAheadOfLeaving() {
        IcePad x = new IcePad();
        x.supply(2, 100);
        x.aircraft(20, 2, 500);
        x.aircraft(20, 3, 500);
        x.treat(0, 0, 2, 10, 100);
        x.treat(1, 1, 2, 10, 100);
        x.pass(1);
        Check.is("the runway is good, and one is on its pad", x.isGood() && x.aircraftOf(0, 0) == IcePad.ON_PAD, true);
        x.weather(-10, RAIN, 5, 11);
        x.pass(1);
        Check.is("the runway freezes ahead of leaving", x.aircraftOf(0, 0), IcePad.CLEAN);
        x.weather(400, CLEAR, 0, 11);
        x.pass(2);
        Check.is("it is still icy", x.thirdOf(0, 0), 3);
        x.pass(1);
        Check.is("it melts ahead of leaving", x.aircraftOf(0, 1), 5);
    }
}
