/** Promises 11 to 13, and what the document's "Minutes" tells: order, plant, duty, clocks, leaving, river. */
public final class MinutesTest {
    private static final int CLEAR = 0, SNOW = 1, RAIN = 2, FROST = 3;
    private static final int ICY = 3;

    public static void main(String[] args) {
        passing();
        plant();
        duty();
        clocksRunOut();
        leaving();
        order();
        river();
        days();
        lastCall();
        Check.end();
    }

    /** 10000 litres in each tank, and so many aircraft with this slot and duty. */
    private static IcePad with(int count, int slot, int duty) {
        IcePad x = new IcePad();
        for (int fluid = 0; fluid < 3; fluid++) {
            x.supply(fluid, 10000);
        }
        for (int i = 0; i < count; i++) {
            x.aircraft(20, slot, duty);
        }
        return x;
    }

    private static void stateIs(String what, IcePad x, int aircraft, int due) {
        Check.is(what + ": aircraft " + aircraft, x.aircraftOf(aircraft, 0), due);
    }

    private static void passAll(IcePad x, int minutes) {
        for (int left = minutes; left > 0; left -= 500) {
            x.pass(Math.min(left, 500));
        }
    }

    // ---- promise 13

    private static void passing() {
        Check.sentence("Promise 13: Returns the minute then.", () -> {
            IcePad x = new IcePad();
            Check.is("the least", x.pass(1), 1);
            Check.is("the most", x.pass(500), 501);
            Check.is("more", x.pass(2), 503);
        });
        Check.sentence("Promise 13: Lets minutes pass, one by one.", () -> {
            IcePad atOnce = Nights.busy();
            IcePad oneByOne = Nights.busy();
            atOnce.pass(500);
            for (int i = 0; i < 500; i++) {
                oneByOne.pass(1);
            }
            Check.same("500 at once", Check.pictureOf(atOnce), Check.pictureOf(oneByOne));
        });
    }

    private static void plant() {
        Check.sentence("Terms: the plant cleans 3 litres of the basin, as far as there are", () -> {
            int[] before = {0, 1, 2, 3, 4, 8};
            int[] behind = {0, 0, 0, 0, 1, 5};
            for (int i = 0; i < before.length; i++) {
                IcePad x = withBasin(before[i]);
                x.pass(1);
                Check.is("left of " + before[i], x.sum(3), behind[i]);
                Check.is("cleaned of " + before[i], x.sum(4), before[i] - behind[i]);
            }
            IcePad x = withBasin(8);
            x.pass(500);
            Check.is("all is cleaned", x.sum(4), 8);
            Check.is("and no more is left", x.sum(3), 0);
        });
    }

    /** At most 8 litres in the basin, at the minute 0. */
    private static IcePad withBasin(int litres) {
        IcePad x = with(1, 0, 500);
        x.treat(0, 0, 0, 10, 50);
        if (litres < 8) {
            x.release(8 - litres);
        }
        return x;
    }

    private static void duty() {
        Check.sentence("Terms: and whose duty was ahead of now, are CANCELLED", () -> {
            IcePad x = with(3, 2000, 3);
            x.aircraft(20, 0, 3);
            x.treat(1, 0, 2, 10, 100);
            x.treat(2, 1, 2, 1000, 100);
            x.treat(3, 2, 2, 10, 100);
            x.pass(3);
            stateIs("in the last minute of its duty", x, 0, IcePad.WAITS);
            stateIs("in the last minute of its duty", x, 1, IcePad.CLEAN);
            stateIs("in the last minute of its duty", x, 2, IcePad.ON_PAD);
            x.pass(1);
            for (int i = 0; i < 3; i++) {
                stateIs("behind its duty", x, i, IcePad.CANCELLED);
            }
            stateIs("it had left", x, 3, IcePad.GONE);
            Check.is("none is clean", x.queue(0), IcePad.NONE);
            x.aircraft(20, 0, 100);
            Check.is("the pad is free", x.treat(4, 1, 2, 10, 100), 6);
        });
        Check.sentence("Terms: a duty, a minute behind which one is CANCELLED", () -> {
            IcePad now = with(1, 0, 0);
            stateIs("a duty of now", now, 0, IcePad.WAITS);
            now.pass(1);
            stateIs("a minute behind it", now, 0, IcePad.CANCELLED);
            IcePad leaves = with(1, 0, 2);
            leaves.treat(0, 0, 0, 10, 100);
            leaves.pass(2);
            Check.is("it may leave in the last minute of its duty", leaves.aircraftOf(0, 1), 2);
            IcePad late = with(1, 3, 2);
            late.treat(0, 0, 0, 10, 100);
            late.pass(3);
            stateIs("with a slot behind its duty", late, 0, IcePad.CANCELLED);
        });
    }

    private static void clocksRunOut() {
        Check.sentence("Terms: Its clock has run out if more minutes have passed since it began than that", () -> {
            IcePad x = inSnow(6, 100);
            x.pass(6);
            Check.is("just as many minutes", x.clock(0), 0.0);
            stateIs("just as many minutes", x, 0, IcePad.CLEAN);
            x.pass(1);
            stateIs("one more", x, 0, IcePad.WAITS);
            IcePad half = inSnow(5, 50);
            half.pass(2);
            Check.is("half a minute is left", half.clock(0), 0.5);
            stateIs("half a minute is left", half, 0, IcePad.CLEAN);
            half.pass(1);
            stateIs("half a minute too much", half, 0, IcePad.WAITS);
        });
        Check.sentence("Terms: by the weather of now", () -> {
            IcePad x = inSnow(6, 100);
            x.weather(0, CLEAR, 0, 0);
            x.pass(50);
            stateIs("under a clear sky", x, 0, IcePad.CLEAN);
            x.weather(0, SNOW, 0, 0);
            stateIs("in snow, not yet", x, 0, IcePad.CLEAN);
            Check.is("its clock", x.clock(0), -44.0);
            x.pass(1);
            stateIs("in snow, a minute on", x, 0, IcePad.WAITS);
        });
        Check.sentence("Terms: those who are CLEAN, and whose clock has run out, WAIT", () -> {
            IcePad x = inSnow(1, 100);
            x.treat(1, 1, 0, 300, 100);
            x.pass(4);
            stateIs("one on its pad", x, 1, IcePad.ON_PAD);
            x.pass(1);
            stateIs("when it would be clean", x, 1, IcePad.WAITS);
            x.table(0, SNOW, 1000);
            x.pass(1);
            stateIs("not clean by a longer clock", x, 1, IcePad.WAITS);
        });
    }

    /** One is treated with 10 litres of a fluid that holds so long in the snow of now, and its slot is far off. */
    private static IcePad inSnow(int minutes, int strength) {
        IcePad x = with(2, 1000, 2000);
        x.weather(0, SNOW, 0, 0);
        x.table(0, SNOW, minutes);
        x.treat(0, 0, 0, 10, strength);
        return x;
    }

    private static void leaving() {
        Check.sentence("Terms: then, if the runway is good, one leaves", MinutesTest::leavesIfGood);
        Check.sentence("Terms: of those who are CLEAN, and whose slot has come", MinutesTest::leavesWithItsSlot);
        Check.sentence("Terms: the one whose clock has the least left", MinutesTest::leastClockLeaves);
        Check.sentence("Terms: of like ones the lowest", MinutesTest::lowestLeaves);
    }

    private static void leavesIfGood() {
        IcePad closed = clean(2, 0);
        closed.close(3, 0);
        closed.pass(3);
        stateIs("in the last minute of the closed runway", closed, 0, IcePad.CLEAN);
        closed.pass(1);
        Check.is("in the minute behind it", closed.aircraftOf(0, 1), 6);
        stateIs("one a minute", closed, 1, IcePad.CLEAN);
        closed.pass(1);
        Check.is("the next in the next", closed.aircraftOf(1, 1), 7);
        closed.pass(1);
        Check.is("none is left", closed.queue(0), IcePad.NONE);
        IcePad windy = clean(1, 0);
        windy.weather(0, CLEAR, 0, 31);
        windy.pass(5);
        stateIs("in a wind of 31", windy, 0, IcePad.CLEAN);
        windy.weather(0, CLEAR, 0, 30);
        windy.pass(1);
        Check.is("in a wind of 30", windy.aircraftOf(0, 1), 8);
    }

    /** At the minute 2 these are clean, none has left, and the wind is calm; the runway was closed till now. */
    private static IcePad clean(int count, int slot) {
        IcePad x = with(count, slot, 2000);
        for (int i = 0; i < count; i++) {
            x.treat(i, i, 2, 10, 100);
        }
        x.close(2, 0);
        x.pass(2);
        return x;
    }

    private static void leavesWithItsSlot() {
        IcePad x = clean(1, 5);
        x.pass(2);
        stateIs("a minute ahead of its slot", x, 0, IcePad.CLEAN);
        x.pass(1);
        Check.is("with its slot", x.aircraftOf(0, 1), 5);
        IcePad past = with(1, 3, 2000);
        past.pass(10);
        past.treat(0, 0, 0, 10, 100);
        past.pass(1);
        stateIs("on its pad behind its slot", past, 0, IcePad.ON_PAD);
        past.pass(1);
        Check.is("behind its slot", past.aircraftOf(0, 1), 12);
        IcePad waits = with(1, 0, 2000);
        waits.pass(5);
        stateIs("never treated", waits, 0, IcePad.WAITS);
    }

    private static void leastClockLeaves() {
        IcePad x = with(3, 0, 2000);
        x.aircraft(20, 500, 2000);
        x.weather(0, FROST, 0, 31);
        x.treat(0, 0, 2, 10, 100);
        x.treat(1, 1, 1, 10, 100);
        x.treat(2, 2, 1, 10, 75);
        x.pass(2);
        x.treat(3, 0, 0, 10, 100);
        x.pass(2);
        x.weather(0, FROST, 0, 30);
        x.pass(1);
        stateIs("the least clock of all, ahead of its slot", x, 3, IcePad.CLEAN);
        Check.is("the least clock whose slot has come", x.aircraftOf(2, 1), 5);
        x.pass(2);
        Check.is("the next", x.aircraftOf(1, 1), 6);
        Check.is("the last", x.aircraftOf(0, 1), 7);
    }

    private static void lowestLeaves() {
        IcePad x = with(3, 0, 2000);
        for (int i = 2; i >= 0; i--) {
            x.treat(i, i, 0, 10, 50 + 25 * i);
        }
        x.pass(4);
        for (int i = 0; i < 3; i++) {
            Check.is("of like clocks", x.aircraftOf(i, 1), 2 + i);
        }
    }

    private static void order() {
        Check.sentence("Terms: first the minute is one more; then the thirds", () -> {
            IcePad x = new IcePad();
            x.spray(0);
            x.pass(60);
            x.weather(-1, FROST, 0, 0);
            x.pass(1);
            Check.is("the minute is behind the spraying", x.thirdOf(0, 0), ICY);
        });
        Check.sentence("Terms: aircraft whose treatment is over", () -> {
            IcePad x = with(1, 0, 2000);
            x.treat(0, 0, 0, 10, 100);
            x.pass(2);
            Check.is("clean, ahead of leaving", x.aircraftOf(0, 1), 2);
            IcePad late = with(1, 0, 1);
            late.treat(0, 0, 0, 10, 100);
            late.pass(2);
            stateIs("cancelled, ahead of leaving", late, 0, IcePad.CANCELLED);
            IcePad runOut = inSnow(1, 100);
            runOut.aircraft(20, 0, 2000);
            runOut.treat(2, 1, 0, 10, 100);
            runOut.pass(2);
            stateIs("run out, ahead of leaving", runOut, 2, IcePad.WAITS);
        });
        Check.sentence("Terms: then the thirds; the ploughs", () -> {
            IcePad freezes = clean(1, 3);
            freezes.weather(-10, RAIN, 5, 11);
            freezes.pass(1);
            stateIs("the runway freezes ahead of leaving", freezes, 0, IcePad.CLEAN);
            freezes.weather(400, CLEAR, 0, 11);
            freezes.pass(2);
            stateIs("it is still icy", freezes, 0, IcePad.CLEAN);
            freezes.pass(1);
            Check.is("it melts ahead of leaving", freezes.aircraftOf(0, 1), 6);
        });
    }

    // ---- promises 11 and 12

    /** 24000 litres in the basin at the minute 0, and all aircraft cancelled. */
    private static IcePad withFullerBasin() {
        IcePad x = with(15, 0, 0);
        for (int i = 0; i < 15; i++) {
            x.treat(i, 0, i % 3, 2000, 50);
            x.cancel(i);
        }
        return x;
    }

    private static void river() {
        Check.sentence("Terms: at most the permit a day, 500 at first", () -> {
            Check.is("the permit at first", new IcePad().permit(0), 500);
            Check.is("500", withFullerBasin().release(500), 500);
            IcePad x = withFullerBasin();
            Check.notNow("501", x, () -> x.release(501));
            Check.is("in two parts, the first", x.release(499), 499);
            Check.notNow("1 too much", x, () -> x.release(2));
            Check.is("in two parts, the second", x.release(1), 500);
            Check.notNow("more than 500", x, () -> x.release(1));
        });
        Check.sentence("Promise 11: Returns what it was.", () -> {
            IcePad x = new IcePad();
            Check.is("at first", x.permit(0), 500);
            Check.is("the least", x.permit(100000), 0);
            Check.is("the most", x.permit(1), 100000);
        });
        Check.sentence("Promise 11: Sets the permit.", () -> {
            IcePad x = withFullerBasin();
            x.permit(0);
            Check.notNow("without a permit", x, () -> x.release(1));
            x.permit(1);
            Check.is("1 litre", x.release(1), 1);
            x.permit(100000);
            Check.is("much", x.release(699), 700);
            x.permit(699);
            Check.notNow("a permit below what went in", x, () -> x.release(1));
            x.permit(700);
            Check.notNow("a permit of what went in", x, () -> x.release(1));
            x.permit(701);
            Check.is("a permit of 1 more", x.release(1), 701);
        });
        Check.sentence("Promise 12: Returns how many went in today.", () -> {
            IcePad x = withFullerBasin();
            Check.is("the first", x.release(200), 200);
            Check.is("and more", x.release(1), 201);
            Check.is("the basin", x.sum(3), 23799);
            Check.is("the river", x.sum(5), 201);
        });
        Check.sentence("Promise 12: if the basin has less", () -> {
            IcePad x = withFullerBasin();
            x.permit(100000);
            Check.notNow("1 litre more than there is", x, () -> x.release(24001));
            Check.is("all there is", x.release(24000), 24000);
            Check.is("the basin is empty", x.sum(3), 0);
            Check.notNow("from an empty basin", x, () -> x.release(1));
        });
    }

    private static void days() {
        Check.sentence("Terms: a day has 1440", () -> {
            for (int day = 1; day <= 3; day++) {
                IcePad x = withFullerBasin();
                passAll(x, 1440 * (day - 1));
                Check.is("the first release of the day " + day, x.release(500), 500);
                passAll(x, 1439);
                Check.notNow("in the last minute of the day", x, () -> x.release(1));
                x.pass(1);
                Check.notNow("more than the permit in the first minute of the next", x, () -> x.release(501));
                Check.is("in the first minute of the next", x.release(1), 1);
            }
        });
        Check.sentence("Terms: at most the permit a day", () -> {
            IcePad x = withFullerBasin();
            passAll(x, 1439);
            Check.is("at the end of a day", x.release(500), 500);
            x.pass(1);
            Check.is("a minute later", x.release(499), 499);
            Check.notNow("above the permit of the next day", x, () -> x.release(2));
            passAll(x, 100);
            Check.is("later on the next day", x.release(1), 500);
            Check.is("of both days", x.sum(5), 1000);
        });
        Check.sentence("Promise 12: Returns how many went in today. (days without a release)", () -> {
            IcePad x = with(1, 0, 0);
            passAll(x, 2 * 1440 + 5);
            x.aircraft(20, 0, 500);
            x.treat(1, 0, 0, 2000, 50);
            Check.is("of the third day, the first of all", x.release(3), 3);
            passAll(x, 300);
            Check.is("later on it", x.release(4), 7);
        });
    }

    // ---- 512 calls

    private static void lastCall() {
        Check.sentence("Terms: An object is used for at most 512 calls after it has been made", () -> {
            IcePad x = new IcePad();
            x.weather(-50, SNOW, 30, 10);
            x.supply(0, 100);
            x.aircraft(20, 0, 0);
            x.treat(0, 0, 0, 100, 100);
            x.close(500, 11);
            int minute = 0;
            for (int call = 6; call < 512; call++) {
                minute = x.pass(500);
            }
            Check.is("the minute of the call 511", minute, 253000);
            Check.is("the call 512", x.clock(0), 20 * 0.75 - 253000);
        });
    }
}
