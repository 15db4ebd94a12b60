/**
 * Each "Throws .. if there is no such .." and "Throws .. if .. is out of range": every mix of good and wrong
 * arguments is refused by the exception that goes first, also where the call is not possible now, and changes nothing.
 */
public final class WrongArgumentsTest {
    private static final Argument THIRD = index(1, 3);
    private static final Argument FLUID = index(0, 3);
    private static final Argument AIRCRAFT = index(Nights.WAITING, Nights.BUSY_AIRCRAFT);

    private interface CallWith {
        void run(IcePad x, int[] values);
    }

    /** A good value of an argument, and the two that lie just outside. */
    private record Argument(boolean isIndex, int good, int below, int above) {
        int value(int choice) {
            return choice == 0 ? good : choice == 1 ? below : above;
        }
    }

    public static void main(String[] args) {
        possibleCalls();
        impossibleCalls();
        Check.end();
    }

    private static Argument index(int good, int count) {
        return new Argument(true, good, -1, count);
    }

    private static Argument range(int good, int least, int most) {
        return new Argument(false, good, least - 1, most + 1);
    }

    private static void wrong(String sentence, Check.Maker night, CallWith call, Argument... arguments) {
        Check.sentence(sentence, () -> mixes(night, call, arguments));
    }

    private static void mixes(Check.Maker night, CallWith call, Argument... arguments) {
        int mixes = 1;
        for (int i = 0; i < arguments.length; i++) {
            mixes *= 3;
        }
        for (int mix = 1; mix < mixes; mix++) {
            mix(night, call, arguments, mix);
        }
    }

    /** The digits of a mix, to the base 3, choose the values. */
    private static void mix(Check.Maker night, CallWith call, Argument[] arguments, int mix) {
        int[] values = new int[arguments.length];
        StringBuilder what = new StringBuilder("with");
        Class<?> due = Check.ARGUMENT;
        int left = mix;
        for (int i = 0; i < values.length; i++) {
            int choice = left % 3;
            left /= 3;
            values[i] = arguments[i].value(choice);
            what.append(' ').append(values[i]);
            if (choice != 0 && arguments[i].isIndex()) {
                due = Check.INDEX;
            }
        }
        Check.refused(due, what.toString(), night, x -> call.run(x, values));
    }

    private static void possibleCalls() {
        wrong("Promise 2: Throws `IllegalArgumentException` if one of these is out of range", Nights::busy,
                (x, v) -> x.weather(v[0], v[1], v[2], v[3]),
                range(30, -400, 400), range(2, 0, 3), range(29, 0, 30), range(59, 0, 60));
        wrong("Promise 3: Throws `IndexOutOfBoundsException` if there is no such third", Nights::busy,
                (x, v) -> x.spray(v[0]), THIRD);
        wrong("Promise 4: Throws `IllegalArgumentException` if minutes or ploughs is out of range", Nights::busy,
                (x, v) -> x.close(v[0], v[1]), range(50, 1, 500), range(5, 0, 11));
        wrong("Promise 5: Throws `IndexOutOfBoundsException` if there is no such third "
                + "Throws `IllegalArgumentException` if code is out of range", Nights::busy,
                (x, v) -> x.pilot(v[0], v[1]), THIRD, range(1, 0, 6));
        wrong("Promise 6: Throws `IndexOutOfBoundsException` if there is no such fluid "
                + "Throws `IllegalArgumentException` if litres is out of range", Nights::busy,
                (x, v) -> x.supply(v[0], v[1]), FLUID, range(500, 1, 10000));
        wrong("Promise 7: Throws `IndexOutOfBoundsException` if there is no such fluid "
                + "Throws `IllegalArgumentException` if fall or minutes is out of range", Nights::busy,
                (x, v) -> x.table(v[0], v[1], v[2]), FLUID, range(1, 1, 3), range(500, 1, 1000));
        wrong("Promise 8: Throws `IllegalArgumentException` if one of these is out of range", Nights::busy,
                (x, v) -> x.aircraft(v[0], v[1], v[2]), range(20, 10, 80), range(9, 0, 2000), range(60, 0, 2000));
        wrong("Promise 9: Throws `IndexOutOfBoundsException` if there is no such aircraft, pad or fluid "
                + "Throws `IllegalArgumentException` if litres or strength is out of range", Nights::busy,
                (x, v) -> x.treat(v[0], v[1], v[2], v[3], v[4]),
                AIRCRAFT, index(2, 3), FLUID, range(10, 10, 2000), range(75, 50, 100));
        wrong("Promise 10: Throws `IndexOutOfBoundsException` if there is no such aircraft", Nights::busy,
                (x, v) -> x.cancel(v[0]), AIRCRAFT);
        wrong("Promise 11: Throws `IllegalArgumentException` if litres is out of range", Nights::busy,
                (x, v) -> x.permit(v[0]), range(7, 0, 100000));
        wrong("Promise 12: Throws `IllegalArgumentException` if litres is out of range", Nights::busy,
                (x, v) -> x.release(v[0]), range(7, 1, 100000));
        wrong("Promise 13: Throws `IllegalArgumentException` if minutes is out of range", Nights::busy,
                (x, v) -> x.pass(v[0]), range(7, 1, 500));
        askingCalls();
    }

    private static void askingCalls() {
        wrong("Promise 14: Throws `IndexOutOfBoundsException` if there is no such third", Nights::busy,
                (x, v) -> x.code(v[0]), THIRD);
        wrong("Promise 15: Throws `IndexOutOfBoundsException` if there is no such third "
                + "Throws `IllegalArgumentException` if what is out of range", Nights::busy,
                (x, v) -> x.thirdOf(v[0], v[1]), THIRD, range(1, 0, 3));
        wrong("Promise 17: Throws `IndexOutOfBoundsException` if there is no such aircraft "
                + "Throws `IllegalArgumentException` if what is out of range", Nights::busy,
                (x, v) -> x.aircraftOf(v[0], v[1]), AIRCRAFT, range(1, 0, 4));
        wrong("Promise 18: Throws `IndexOutOfBoundsException` if there is no such aircraft", Nights::busy,
                (x, v) -> x.clock(v[0]), AIRCRAFT);
        wrong("Promise 19: Throws `IndexOutOfBoundsException` if there is no such aircraft", Nights::busy,
                (x, v) -> x.whyNot(v[0]), AIRCRAFT);
        wrong("Promise 21: Throws `IllegalArgumentException` if what is out of range", Nights::busy,
                (x, v) -> x.sum(v[0]), range(1, 0, 6));
    }

    /** With good arguments these calls are not possible, for each reason there is at once. */
    private static void impossibleCalls() {
        impossible("Promise 6: if it would be above 100000", Nights::fullTanks,
                (x, v) -> x.supply(v[0], v[1]), FLUID, range(500, 1, 10000));
        impossible("Promise 8: Throws `IllegalStateException` as told above", Nights::fleet,
                (x, v) -> x.aircraft(v[0], v[1], v[2]), range(20, 10, 80), range(9, 0, 2000), range(60, 0, 2000));
        impossible("Promise 9: if it neither WAITS nor is CLEAN, the pad is not free", Nights::busy,
                (x, v) -> x.treat(v[0], v[1], v[2], v[3], v[4]),
                index(Nights.LEFT, Nights.BUSY_AIRCRAFT), index(1, 3), index(2, 3),
                range(10, 10, 2000), range(75, 50, 100));
        impossible("Promise 9: or too narrow, or the tank has less", Nights::busy,
                (x, v) -> x.treat(v[0], v[1], v[2], v[3], v[4]),
                AIRCRAFT, index(0, 3), index(2, 3), range(10, 10, 2000), range(75, 50, 100));
        impossible("Promise 12: if the basin has less, or it would be above the permit", IcePad::new,
                (x, v) -> x.release(v[0]), range(600, 1, 100000));
    }

    private static void impossible(String reason, Check.Maker night, CallWith call, Argument... arguments) {
        wrong("Terms: IndexOutOfBoundsException goes first, then IllegalArgumentException (" + reason + ")",
                night, call, arguments);
        int[] good = new int[arguments.length];
        for (int i = 0; i < good.length; i++) {
            good[i] = arguments[i].good();
        }
        Check.sentence(reason, () -> Check.refused(Check.STATE, "with good arguments", night, x -> call.run(x, good)));
    }
}
