/** Each call that is not possible now, just at its edge: it is refused and changes nothing, one step less is taken. */
public final class RefusalsTest {
    public static void main(String[] args) {
        fluidsAndPads();
        treating();
        river();
        asking();
        Check.end();
    }

    private static void not(String what, Check.Maker night, Check.CallOf call) {
        Check.refused(Check.STATE, what, night, call);
    }

    private static void fluidsAndPads() {
        Check.sentence("Promise 6: Throws `IllegalStateException` if it would be above 100000", RefusalsTest::supply);
        Check.sentence("Terms: There are at most 20 aircraft", RefusalsTest::aircraft);
        Check.sentence("Promise 10: Throws `IllegalStateException` if it is GONE or CANCELLED", RefusalsTest::cancel);
    }

    private static void treating() {
        Check.sentence("Promise 9: if it neither WAITS nor is CLEAN", RefusalsTest::treatNeitherWaitingNorClean);
        Check.sentence("Promise 9: the pad is not free", RefusalsTest::treatOnTakenPad);
        Check.sentence("Promise 9: or too narrow", RefusalsTest::treatOnNarrowPad);
        Check.sentence("Promise 9: or the tank has less", RefusalsTest::treatFromTankWithLess);
        Check.sentence("Terms: A call that throws an exception changes nothing. (of an earlier treatment)",
                RefusalsTest::treatAgainInVain);
    }

    private static void river() {
        Check.sentence("Promise 12: if the basin has less", RefusalsTest::releaseMoreThanThereIs);
        Check.sentence("Promise 12: or it would be above the permit", RefusalsTest::releaseAbovePermit);
    }

    private static void asking() {
        Check.sentence("Promise 18: Throws `IllegalStateException` if it was not treated", RefusalsTest::clock);
        Check.sentence("Terms: fluid, pad or aircraft that does not exist",
                RefusalsTest::aircraftThatDoesNotExist);
    }

    private static void supply() {
        for (int fluid = 0; fluid < 3; fluid++) {
            int full = fluid;
            not("1 litre into a full tank", Nights::fullTanks, x -> x.supply(full, 1));
            not("10000 litres into a full tank", Nights::fullTanks, x -> x.supply(full, 10000));
            not("1 litre too much", () -> withRoomFor(99, full), x -> x.supply(full, 100));
            Check.is("the last litres", withRoomFor(99, full).supply(full, 99), 100000);
            Check.is("the last litre", withRoomFor(1, full).supply(full, 1), 100000);
        }
    }

    /** Tanks that are full, but for so many litres of one fluid. */
    private static IcePad withRoomFor(int litres, int fluid) {
        IcePad x = new IcePad();
        x.supply(fluid, 10000 - litres);
        for (int i = 0; i < 9; i++) {
            x.supply(fluid, 10000);
        }
        return x;
    }

    private static void aircraft() {
        not("one more than 20", Nights::fleet, x -> x.aircraft(20, 0, 60));
        not("one more than 20 that are cancelled", RefusalsTest::cancelledFleet, x -> x.aircraft(20, 0, 60));
        not("one more than 20 that are gone", RefusalsTest::goneFleet, x -> x.aircraft(20, 0, 60));
    }

    private static IcePad cancelledFleet() {
        IcePad x = Nights.fleet();
        for (int i = 0; i < 20; i++) {
            x.cancel(i);
        }
        return x;
    }

    private static IcePad goneFleet() {
        IcePad x = Nights.cleanFleet();
        x.pass(500);
        return x;
    }

    private static void treatNeitherWaitingNorClean() {
        not("treat one that left", Nights::busy, x -> x.treat(Nights.LEFT, 2, 0, 10, 50));
        not("treat a cancelled one", Nights::busy, x -> x.treat(Nights.CALLED_OFF, 2, 0, 10, 50));
        not("treat one on a pad on another", Nights::busy, x -> x.treat(Nights.TREATED, 2, 0, 10, 50));
        Check.is("treat a clean one", Nights.busy().treat(Nights.CLEANED, 2, 0, 10, 50), 6);
        Check.is("treat one that waits", Nights.busy().treat(Nights.WAITING, 2, 0, 10, 50), 6);
    }

    private static void treatOnTakenPad() {
        for (int pad = 0; pad < 3; pad++) {
            int taken = pad;
            not("treat on the taken pad " + pad, () -> withTakenPad(taken, 0), x -> x.treat(1, taken, 0, 10, 50));
            not("treat a minute too early", () -> withTakenPad(taken, 3), x -> x.treat(1, taken, 0, 10, 50));
            Check.is("treat when it is free", withTakenPad(taken, 4).treat(1, taken, 0, 10, 50), 6);
            Check.is("treat on another", withTakenPad(taken, 0).treat(1, (taken + 1) % 3, 0, 10, 50), 2);
        }
    }

    /** A fleet of which one is on this pad for 4 minutes, so many minutes later. */
    private static IcePad withTakenPad(int pad, int minutes) {
        IcePad x = Nights.fleet();
        x.treat(0, pad, 0, 200, 50);
        if (minutes > 0) {
            x.pass(minutes);
        }
        return x;
    }

    private static void treatOnNarrowPad() {
        int[] spansUpTo = {40, 60, 80};
        for (int pad = 0; pad < 3; pad++) {
            int narrow = pad;
            int widest = spansUpTo[pad];
            Check.is("treat the widest on pad " + pad, withSpan(widest).treat(0, pad, 0, 10, 50), 2);
            if (widest < 80) {
                not("treat a wider one on pad " + pad, () -> withSpan(widest + 1), x -> x.treat(0, narrow, 0, 10, 50));
                not("treat the widest of all on pad " + pad, () -> withSpan(80), x -> x.treat(0, narrow, 0, 10, 50));
            }
        }
    }

    private static IcePad withSpan(int span) {
        IcePad x = Nights.fullTanks();
        x.aircraft(span, 100, 600);
        return x;
    }

    private static void treatFromTankWithLess() {
        for (int fluid = 0; fluid < 3; fluid++) {
            int of = fluid;
            not("treat from an empty tank", () -> withLitres((of + 1) % 3, 2000), x -> x.treat(0, 0, of, 10, 50));
            not("treat with 1 litre more than there is", () -> withLitres(of, 149), x -> x.treat(0, 0, of, 150, 50));
            IcePad x = withLitres(of, 150);
            Check.is("treat with all there is", x.treat(0, 0, of, 150, 50), 3);
            Check.is("the tank is empty then", x.sum(1), 0);
        }
    }

    private static void treatAgainInVain() {
        not("treat a clean one on a taken pad", Nights::busy, x -> x.treat(Nights.CLEANED, 1, 1, 100, 50));
        not("treat a clean one on a narrow pad", Nights::busy, x -> x.treat(Nights.CLEANED, 0, 1, 100, 50));
        not("treat a clean one with more than there is", Nights::busy, x -> x.treat(Nights.CLEANED, 2, 1, 301, 50));
        not("treat one on a pad with another fluid", Nights::busy, x -> x.treat(Nights.TREATED, 2, 1, 100, 50));
        not("treat one that left with another fluid", Nights::busy, x -> x.treat(Nights.LEFT, 2, 1, 100, 50));
    }

    private static IcePad withLitres(int fluid, int litres) {
        IcePad x = new IcePad();
        x.supply(fluid, litres);
        x.aircraft(20, 100, 600);
        return x;
    }

    private static void cancel() {
        not("cancel one that left", Nights::busy, x -> x.cancel(Nights.LEFT));
        not("cancel a cancelled one", Nights::busy, x -> x.cancel(Nights.CALLED_OFF));
        not("cancel one whose duty is over", () -> later(Nights.busy(), 20), x -> x.cancel(Nights.WAITING));
        Check.is("cancel a clean one", Nights.busy().cancel(Nights.CLEANED), IcePad.CLEAN);
        Check.is("cancel one on a pad", Nights.busy().cancel(Nights.TREATED), IcePad.ON_PAD);
        Check.is("cancel one that waits", Nights.busy().cancel(Nights.WAITING), IcePad.WAITS);
    }

    private static IcePad later(IcePad x, int minutes) {
        x.pass(minutes);
        return x;
    }

    private static void releaseMoreThanThereIs() {
        not("release from an empty basin", IcePad::new, x -> x.release(1));
        not("release 1 litre more than there is", RefusalsTest::basinOf80, x -> x.release(81));
        Check.is("release all there is", basinOf80().release(80), 80);
        not("release from an emptied basin", RefusalsTest::emptiedBasin, x -> x.release(1));
    }

    private static IcePad basinOf80() {
        IcePad x = withLitres(0, 100);
        x.treat(0, 0, 0, 100, 100);
        return x;
    }

    private static IcePad emptiedBasin() {
        IcePad x = basinOf80();
        x.release(80);
        return x;
    }

    private static void releaseAbovePermit() {
        not("release 1 litre more than 500 at first", RefusalsTest::basinOf1600, x -> x.release(501));
        Check.is("release 500 at first", basinOf1600().release(500), 500);
        not("release on a day that has its 500", () -> withReleased(500, 500), x -> x.release(1));
        not("release 1 litre more than the day has left", () -> withReleased(499, 500), x -> x.release(2));
        Check.is("release what the day has left", withReleased(499, 500).release(1), 500);
        not("release without a permit", () -> withReleased(1, 0), x -> x.release(1));
        not("release above a permit that was lowered", () -> withReleased(500, 499), x -> x.release(1));
    }

    private static IcePad basinOf1600() {
        IcePad x = withLitres(0, 2000);
        x.treat(0, 0, 0, 2000, 100);
        return x;
    }

    /** So many litres of 1600 went into the river today, and this is the permit now. */
    private static IcePad withReleased(int litres, int permit) {
        IcePad x = basinOf1600();
        x.release(litres);
        x.permit(permit);
        return x;
    }

    private static void clock() {
        not("the clock of one that waits", Nights::busy, x -> x.clock(Nights.WAITING));
        not("the clock of one cancelled untreated", Nights::busy, x -> x.clock(Nights.CALLED_OFF));
        Check.is("the clock of one on a pad", Nights.busy().clock(Nights.TREATED), 20 * 0.75 * 0.75 - 1);
    }

    /** Of none, and the one behind the last; the last one exists. */
    private static void aircraftThatDoesNotExist() {
        noSuch(IcePad::new, 0);
        noSuch(Nights::busy, Nights.BUSY_AIRCRAFT);
        noSuch(Nights::fleet, 20);
        Check.is("treat the last", Nights.busy().treat(Nights.BUSY_AIRCRAFT - 1, 2, 0, 10, 50), 6);
        Check.is("the state of the last", Nights.fleet().aircraftOf(19, 0), IcePad.WAITS);
    }

    private static void noSuch(Check.Maker night, int number) {
        Check.refused(Check.INDEX, "treat " + number, night, x -> x.treat(number, 2, 0, 10, 50));
        Check.refused(Check.INDEX, "cancel " + number, night, x -> x.cancel(number));
        Check.refused(Check.INDEX, "aircraftOf " + number, night, x -> x.aircraftOf(number, 0));
        Check.refused(Check.INDEX, "clock " + number, night, x -> x.clock(number));
        Check.refused(Check.INDEX, "whyNot " + number, night, x -> x.whyNot(number));
    }
}
