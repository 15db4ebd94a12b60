/** Each range of the document: its least and its most are taken, what lies just outside and far off is refused. */
public final class RangesTest {
    private static final int RAIN = 2;
    private static final int MOST = Integer.MAX_VALUE;

    private interface Use {
        void of(IcePad x, int value);
    }

    public static void main(String[] args) {
        weather();
        runway();
        tanksAndTable();
        aircraft();
        treat();
        river();
        asking();
        Check.end();
    }

    /** The values from least to most are taken in this night, others throw this and change nothing. */
    private static void range(String sentence, Class<?> outside, int least, int most, Check.Maker night, Use use) {
        Check.sentence(sentence, () -> {
            for (int value : new int[] {least, most}) {
                Check.taken("with " + value, night, x -> use.of(x, value));
            }
            for (int value : new int[] {least - 1, Integer.MIN_VALUE}) {
                Check.refused(outside, "with " + value, night, x -> use.of(x, value));
            }
            if (most != MOST) {
                for (int value : new int[] {most + 1, MOST}) {
                    Check.refused(outside, "with " + value, night, x -> use.of(x, value));
                }
            }
        });
    }

    private static void index(String sentence, int most, Check.Maker night, Use use) {
        range(sentence, Check.INDEX, 0, most, night, use);
    }

    private static void argument(String sentence, int least, int most, Check.Maker night, Use use) {
        range(sentence, Check.ARGUMENT, least, most, night, use);
    }

    private static void weather() {
        argument("Promise 2: `temperature`: -400 to 400", -400, 400,
                Nights::busy, (x, v) -> x.weather(v, RAIN, 29, 25));
        argument("Promise 2: `fall`: 0 to 3: CLEAR to FROST", 0, 3, Nights::busy, (x, v) -> x.weather(30, v, 29, 25));
        argument("Promise 2: `rate`: 0 to 30", 0, 30, Nights::busy, (x, v) -> x.weather(30, RAIN, v, 25));
        argument("Promise 2: `wind`: 0 to 60", 0, 60, Nights::busy, (x, v) -> x.weather(30, RAIN, 29, v));
    }

    private static void runway() {
        index("Promise 3: `third`: 0 to 2", 2, Nights::busy, (x, v) -> x.spray(v));
        argument("Promise 4: `minutes`: 1 to 500", 1, 500, Nights::busy, (x, v) -> x.close(v, 5));
        argument("Promise 4: `ploughs`: 0 to 11", 0, 11, Nights::busy, (x, v) -> x.close(50, v));
        index("Promise 5: `third`: 0 to 2", 2, Nights::busy, (x, v) -> x.pilot(v, 0));
        argument("Promise 5: `code`: 0 to 6", 0, 6, Nights::busy, (x, v) -> x.pilot(1, v));
    }

    private static void tanksAndTable() {
        index("Promise 6: `fluid`: 0 to 2", 2, Nights::busy, (x, v) -> x.supply(v, 10));
        argument("Promise 6: `litres`: 1 to 10000", 1, 10000, Nights::busy, (x, v) -> x.supply(0, v));
        index("Promise 7: `fluid`: 0 to 2", 2, Nights::busy, (x, v) -> x.table(v, 1, 50));
        argument("Promise 7: `fall`: 1 to 3", 1, 3, Nights::busy, (x, v) -> x.table(0, v, 50));
        argument("Promise 7: `minutes`: 1 to 1000", 1, 1000, Nights::busy, (x, v) -> x.table(0, 1, v));
    }

    private static void aircraft() {
        argument("Promise 8: `span`: 10 to 80", 10, 80, Nights::busy, (x, v) -> x.aircraft(v, 0, 60));
        argument("Promise 8: `slot`: 0 to 2000: in so many minutes", 0, 2000,
                Nights::busy, (x, v) -> x.aircraft(20, v, 60));
        argument("Promise 8: `duty`: 0 to 2000: in so many minutes", 0, 2000,
                Nights::busy, (x, v) -> x.aircraft(20, 0, v));
        index("Promise 10: `aircraft`: an aircraft", 19, Nights::fleet, (x, v) -> x.cancel(v));
        index("Promise 17: `aircraft`: an aircraft", 19, Nights::fleet, (x, v) -> x.aircraftOf(v, 0));
        index("Promise 18: `aircraft`: an aircraft", 19, Nights::cleanFleet, (x, v) -> x.clock(v));
        index("Promise 19: `aircraft`: an aircraft", 19, Nights::fleet, (x, v) -> x.whyNot(v));
    }

    private static void treat() {
        index("Promise 9: `aircraft`: an aircraft", 19, Nights::fleet, (x, v) -> x.treat(v, 0, 0, 10, 50));
        index("Promise 9: `pad`: 0 to 2", 2, Nights::fleet, (x, v) -> x.treat(0, v, 0, 10, 50));
        index("Promise 9: `fluid`: 0 to 2", 2, Nights::fleet, (x, v) -> x.treat(0, 0, v, 10, 50));
        argument("Promise 9: `litres`: 10 to 2000", 10, 2000, Nights::fleet, (x, v) -> x.treat(0, 0, 0, v, 50));
        Check.sentence("Promise 9: `strength`: 50, 75 or 100", () -> {
            for (int strength : new int[] {50, 75, 100}) {
                Check.taken("with " + strength, Nights::fleet, x -> x.treat(0, 0, 0, 10, strength));
            }
            for (int strength : new int[] {49, 51, 74, 76, 99, 101, 0, 25, 60, 150, -50, Integer.MIN_VALUE, MOST}) {
                Check.refused(Check.ARGUMENT, "with " + strength, Nights::fleet, x -> x.treat(0, 0, 0, 10, strength));
            }
        });
    }

    private static void river() {
        argument("Promise 11: `litres`: 0 to 100000", 0, 100000, Nights::busy, (x, v) -> x.permit(v));
        argument("Promise 12: `litres`: 1 to 100000", 1, 100000, Nights::fullBasin, (x, v) -> x.release(v));
        argument("Promise 13: `minutes`: 1 to 500", 1, 500, Nights::busy, (x, v) -> x.pass(v));
    }

    private static void asking() {
        index("Promise 14: `third`: 0 to 2", 2, Nights::busy, (x, v) -> x.code(v));
        index("Promise 15: `third`: 0 to 2", 2, Nights::busy, (x, v) -> x.thirdOf(v, 0));
        argument("Promise 15: `what`: 0 DRY to ICY, 1 the depth, 2 1 if it is sprayed now, 0 if not, "
                + "3 the code by what lies there", 0, 3, Nights::busy, (x, v) -> x.thirdOf(0, v));
        argument("Promise 17: `what`: 0 WAITS to CANCELLED, 1 the minute in which it left, -1 if it did not, "
                + "2 how often it was treated, 3 the litres on it, of all its treatments, "
                + "4 its pad, -1 if it is not ON_PAD", 0, 4, Nights::busy, (x, v) -> x.aircraftOf(0, v));
        range("Promise 20: Throws `IndexOutOfBoundsException` if place is below 0", Check.INDEX, 0, MOST,
                Nights::busy, (x, v) -> x.queue(v));
        argument("Promise 21: `what`: 0 all that was supplied, 1 what is in the tanks, 2 what is on aircraft, "
                + "gone or not, 3 the basin, 4 what the plant cleaned, 5 what went into the river, 6 the heap",
                0, 6, Nights::busy, (x, v) -> x.sum(v));
    }
}
