/**
 * Long runs of calls, some of them wrong: the litres balance, and a twin that is told all but the
 * calls that threw answers the same, so that they changed nothing, also nothing that can't be asked.
 */
public final class LongRunsTest {
    private static final int RUNS = 400;
    private static final int CALLS = 250;

    private final Numbers numbers;

    private LongRunsTest(long seed) {
        numbers = new Numbers(seed);
    }

    public static void main(String[] args) {
        for (int run = 1; run <= RUNS; run++) {
            new LongRunsTest(run).run("run " + run);
        }
        Check.end();
    }

    private void run(String name) {
        IcePad one = new IcePad();
        IcePad twin = new IcePad();
        int threw = 0;
        for (int i = 0; i < CALLS; i++) {
            int[] call = nextCall();
            String answer = answerOf(one, call);
            if (answer.startsWith("throws")) {
                threw++;
            } else {
                Check.same(name + ", call " + i + " of the twin", answerOf(twin, call), answer);
            }
            Check.is(name + ", call " + i + " balance", balance(one), 0);
        }
        Check.same(name + " at its end", Check.pictureOf(twin), Check.pictureOf(one));
        Check.is(name + " has calls that throw and others", threw > 10 && threw < CALLS - 50, true);
    }

    private static int balance(IcePad x) {
        return x.sum(0) - x.sum(1) - x.sum(2) - x.sum(3) - x.sum(4) - x.sum(5);
    }

    private int next(int low, int high) {
        return numbers.from(low, high);
    }

    private int[] nextCall() {
        switch (next(0, 15)) {
            case 0:
                return new int[] {0, next(-150, 50), next(0, 3), next(0, 30), next(0, 35)};
            case 1:
                return new int[] {1, next(-1, 3)};
            case 2:
                return new int[] {2, next(-1, 15), next(-1, 12)};
            case 3:
                return new int[] {3, next(-1, 3), next(-1, 7)};
            case 4:
                return new int[] {4, next(-1, 3), next(-100, 10100)};
            case 5:
                return new int[] {5, next(-1, 3), next(0, 4), next(0, 90)};
            case 6:
                return new int[] {6, next(5, 85), next(-5, 60), next(-5, 200)};
            case 7:
                return new int[] {8, next(-1, 20)};
            case 8:
                return new int[] {9, next(-10, 2000)};
            case 9:
                return new int[] {10, next(-10, 600)};
            case 10:
            case 11:
                return new int[] {11, next(-1, 12)};
            case 12:
                return new int[] {11, next(400, 510)};
            default:
                return new int[] {7, next(-1, 20), next(-1, 3), next(-1, 3), next(0, 500), 25 * next(1, 4)};
        }
    }

    private static String answerOf(IcePad x, int[] call) {
        try {
            return Integer.toString(answer(x, call));
        } catch (IndexOutOfBoundsException | IllegalArgumentException | IllegalStateException e) {
            return "throws " + e.getClass().getName();
        }
    }

    private static int answer(IcePad x, int[] c) {
        switch (c[0]) {
            case 0:
                x.weather(c[1], c[2], c[3], c[4]);
                return 0;
            case 1:
                return x.spray(c[1]);
            case 2:
                return x.close(c[1], c[2]);
            case 3:
                return x.pilot(c[1], c[2]);
            case 4:
                return x.supply(c[1], c[2]);
            case 5:
                return x.table(c[1], c[2], c[3]);
            case 6:
                return x.aircraft(c[1], c[2], c[3]);
            case 7:
                return x.treat(c[1], c[2], c[3], c[4], c[5]);
            case 8:
                return x.cancel(c[1]);
            case 9:
                return x.permit(c[1]);
            case 10:
                return x.release(c[1]);
            default:
                return x.pass(c[1]);
        }
    }
}
