import java.util.ArrayList;
import java.util.List;

/**
 * The document read a second time, apart from IcePad: what was told is kept as it was told, and the answers are
 * worked out from it anew, in whole numbers. Slow, and only for ModelTest.
 */
public final class SecondReading {
    private enum Cover { DRY, WET, SNOWY, ICY }

    private record Spraying(int third, int minute) { }

    private record Report(int third, int code, int minute) { }

    private record Release(int litres, int minute) { }

    private record Treatment(int pad, int fluid, int litres, int strength, int minute) {
        int over() {
            return minute + 2 + litres / 100;
        }

        int stays() {
            return litres * 20 / 100;
        }
    }

    private static final class Plane {
        int span;
        int slot;
        int duty;
        int is = 0;
        int left = -1;
        final List<Treatment> treatments = new ArrayList<>();

        Treatment last() {
            return treatments.get(treatments.size() - 1);
        }
    }

    private int now = 0;
    private int temperature = 0;
    private int fall = 0;
    private int rate = 0;
    private int wind = 0;
    private final Cover[] covers = {Cover.DRY, Cover.DRY, Cover.DRY};
    private final int[] depths = {0, 0, 0};
    private final List<Spraying> sprayings = new ArrayList<>();
    private final List<Report> reports = new ArrayList<>();
    private int openFrom = 0;
    private int ploughs = 0;
    private int heap = 0;
    private final int[] supplied = {0, 0, 0};
    private final int[][] holds = {{20, 5, 20}, {60, 30, 60}, {100, 70, 100}};
    private final List<Plane> planes = new ArrayList<>();
    private int permitted = 500;
    private final List<Release> releases = new ArrayList<>();
    private int cleaned = 0;

    // ---- what may be asked of it

    public void weather(int temperature, int fall, int rate, int wind) {
        argument(temperature >= -400 && temperature <= 400 && fall >= 0 && fall <= 3);
        argument(rate >= 0 && rate <= 30 && wind >= 0 && wind <= 60);
        this.temperature = temperature;
        this.fall = fall;
        this.rate = rate;
        this.wind = wind;
    }

    public int spray(int third) {
        ofThree(third);
        sprayings.add(new Spraying(third, now));
        return now + 60;
    }

    public int close(int minutes, int ploughs) {
        argument(minutes >= 1 && minutes <= 500 && ploughs >= 0 && ploughs <= 11);
        openFrom = now + minutes + 1;
        this.ploughs = ploughs;
        return now + minutes;
    }

    public int pilot(int third, int code) {
        ofThree(third);
        argument(code >= 0 && code <= 6);
        reports.add(new Report(third, code, now));
        return code(third);
    }

    public int supply(int fluid, int litres) {
        ofThree(fluid);
        argument(litres >= 1 && litres <= 10000);
        state(tank(fluid) + litres <= 100000);
        supplied[fluid] += litres;
        return tank(fluid);
    }

    public int table(int fluid, int fall, int minutes) {
        ofThree(fluid);
        argument(fall >= 1 && fall <= 3 && minutes >= 1 && minutes <= 1000);
        int was = holds[fluid][fall - 1];
        holds[fluid][fall - 1] = minutes;
        return was;
    }

    public int aircraft(int span, int slot, int duty) {
        argument(span >= 10 && span <= 80 && slot >= 0 && slot <= 2000 && duty >= 0 && duty <= 2000);
        state(planes.size() < 20);
        Plane plane = new Plane();
        plane.span = span;
        plane.slot = now + slot;
        plane.duty = now + duty;
        planes.add(plane);
        return planes.size() - 1;
    }

    public int treat(int aircraft, int pad, int fluid, int litres, int strength) {
        Plane plane = plane(aircraft);
        ofThree(pad);
        ofThree(fluid);
        argument(litres >= 10 && litres <= 2000 && List.of(50, 75, 100).contains(strength));
        state(plane.is == 0 || plane.is == 2);
        state(planes.stream().noneMatch(other -> other.is == 1 && other.last().pad() == pad));
        state(plane.span <= 40 + 20 * pad);
        state(tank(fluid) >= litres);
        plane.treatments.add(new Treatment(pad, fluid, litres, strength, now));
        plane.is = 1;
        return plane.last().over();
    }

    public int cancel(int aircraft) {
        Plane plane = plane(aircraft);
        int was = plane.is;
        state(was <= 2);
        plane.is = 4;
        return was;
    }

    public int permit(int litres) {
        argument(litres >= 0 && litres <= 100000);
        int was = permitted;
        permitted = litres;
        return was;
    }

    public int release(int litres) {
        argument(litres >= 1 && litres <= 100000);
        state(litres <= basin());
        state(releasedToday() + litres <= permitted);
        releases.add(new Release(litres, now));
        return releasedToday();
    }

    public int pass(int minutes) {
        argument(minutes >= 1 && minutes <= 500);
        for (int i = 0; i < minutes; i++) {
            minute();
        }
        return now;
    }

    public int code(int third) {
        ofThree(third);
        for (int i = reports.size() - 1; i >= 0; i--) {
            Report report = reports.get(i);
            if (report.third() == third) {
                boolean counts = report.minute() >= now - 30;
                return counts ? Math.min(report.code(), codeLying(third)) : codeLying(third);
            }
        }
        return codeLying(third);
    }

    public int thirdOf(int third, int what) {
        ofThree(third);
        argument(what >= 0 && what <= 3);
        int[] all = {covers[third].ordinal(), depths[third], isSprayed(third) ? 1 : 0, codeLying(third)};
        return all[what];
    }

    public boolean isGood() {
        return !isClosed() && codesAreEnough();
    }

    public int aircraftOf(int aircraft, int what) {
        Plane plane = plane(aircraft);
        argument(what >= 0 && what <= 4);
        int on = plane.treatments.stream().mapToInt(Treatment::stays).sum();
        int pad = plane.is == 1 ? plane.last().pad() : -1;
        int[] all = {plane.is, plane.left, plane.treatments.size(), on, pad};
        return all[what];
    }

    public double clock(int aircraft) {
        Plane plane = plane(aircraft);
        state(!plane.treatments.isEmpty());
        return left(plane) / 10000.0;
    }

    public int whyNot(int aircraft) {
        Plane plane = plane(aircraft);
        boolean[] reasons = {plane.is != 2, plane.slot > now, plane.is == 2 && left(plane) < 0, isClosed(),
            !codesAreEnough()};
        for (int i = 0; i < reasons.length; i++) {
            if (reasons[i]) {
                return i + 1;
            }
        }
        return 0;
    }

    public int queue(int place) {
        index(place >= 0);
        List<Plane> queue = queue();
        return place < queue.size() ? planes.indexOf(queue.get(place)) : -1;
    }

    public int sum(int what) {
        argument(what >= 0 && what <= 6);
        int[] all = {supplied[0] + supplied[1] + supplied[2], tank(0) + tank(1) + tank(2), onPlanes(), basin(),
            cleaned, released(), heap};
        return all[what];
    }

    // ---- a minute

    private void minute() {
        now = now + 1;
        for (int third = 0; third < 3; third++) {
            falls(third);
            melts(third);
            freezes(third);
        }
        if (isClosed()) {
            plough();
        }
        planes.stream().filter(plane -> plane.is == 1 && plane.last().over() == now).forEach(plane -> plane.is = 2);
        cleaned += Math.min(basin(), 3);
        planes.stream().filter(plane -> plane.is < 3 && now > plane.duty).forEach(plane -> plane.is = 4);
        planes.stream().filter(plane -> plane.is == 2 && left(plane) < 0).forEach(plane -> plane.is = 0);
        if (isGood()) {
            queue().stream().filter(plane -> plane.slot <= now).findFirst().ifPresent(this::leave);
        }
    }

    private void leave(Plane plane) {
        plane.is = 3;
        plane.left = now;
    }

    private void falls(int third) {
        Cover was = covers[third];
        boolean coldAndBare = temperature < 0 && !isSprayed(third);
        if (fall == 1) {
            covers[third] = was == Cover.ICY ? Cover.ICY : Cover.SNOWY;
            depths[third] = Math.min(5000, depths[third] + rate);
        }
        if (fall == 2 && coldAndBare) {
            covers[third] = Cover.ICY;
            depths[third] = Math.min(5000, depths[third] + rate);
        }
        if (fall == 2 && !coldAndBare && was == Cover.DRY) {
            becomes(third, Cover.WET, 0);
        }
        if (fall == 3 && coldAndBare && (was == Cover.DRY || was == Cover.WET)) {
            becomes(third, Cover.ICY, 1);
        }
    }

    private void melts(int third) {
        if (temperature > 20 && (covers[third] == Cover.SNOWY || covers[third] == Cover.ICY)) {
            if (depths[third] > 2) {
                depths[third] -= 2;
            } else {
                becomes(third, Cover.WET, 0);
            }
        }
    }

    private void freezes(int third) {
        if (temperature < 0 && covers[third] == Cover.WET && !isSprayed(third)) {
            becomes(third, Cover.ICY, 1);
        }
    }

    private void becomes(int third, Cover cover, int depth) {
        covers[third] = cover;
        depths[third] = depth;
    }

    /** A unit of depth at a time, from the first third that has some. */
    private void plough() {
        for (int taken = 0; taken < 40 * ploughs; taken++) {
            int third = 0;
            while (third < 3 && (covers[third] != Cover.SNOWY || depths[third] == 0)) {
                third++;
            }
            if (third < 3) {
                depths[third]--;
                heap++;
            }
        }
        for (int third = 0; third < 3; third++) {
            if (covers[third] == Cover.SNOWY && depths[third] == 0) {
                covers[third] = Cover.WET;
            }
        }
    }

    // ---- what follows from what was told

    private boolean isSprayed(int third) {
        return sprayings.stream().anyMatch(spraying -> spraying.third() == third && now - spraying.minute() <= 60);
    }

    private boolean isClosed() {
        return now < openFrom;
    }

    private int codeLying(int third) {
        switch (covers[third]) {
            case DRY:
                return 6;
            case WET:
                return 5;
            case ICY:
                return temperature < -30 ? 1 : 0;
            default:
                if (depths[third] > 100) {
                    return 2;
                }
                return depths[third] > 30 || temperature >= -30 ? 3 : 5;
        }
    }

    private boolean codesAreEnough() {
        int needed = wind > 30 ? 7 : wind > 20 ? 5 : wind > 10 ? 3 : 1;
        return Math.min(code(0), Math.min(code(1), code(2))) >= needed;
    }

    /** What a clock has left, in ten thousandths of a minute. */
    private long left(Plane plane) {
        Treatment last = plane.last();
        int coldness = temperature < -100 ? 50 : temperature < -30 ? 75 : 100;
        long all = 1000000L * 10000;
        if (fall != 0) {
            all = (long) holds[last.fluid()][fall - 1] * last.strength() * coldness;
        }
        return all - (now - last.minute()) * 10000L;
    }

    /** Sorting keeps the order of like ones. */
    private List<Plane> queue() {
        List<Plane> queue = new ArrayList<>(planes);
        queue.removeIf(plane -> plane.is != 2);
        queue.sort((one, other) -> Long.compare(left(one), left(other)));
        return queue;
    }

    private List<Treatment> treatments() {
        List<Treatment> all = new ArrayList<>();
        planes.forEach(plane -> all.addAll(plane.treatments));
        return all;
    }

    private int tank(int fluid) {
        return supplied[fluid]
                - treatments().stream().filter(one -> one.fluid() == fluid).mapToInt(Treatment::litres).sum();
    }

    private int onPlanes() {
        return treatments().stream().mapToInt(Treatment::stays).sum();
    }

    private int basin() {
        return treatments().stream().mapToInt(Treatment::litres).sum() - onPlanes() - cleaned - released();
    }

    private int released() {
        return releases.stream().mapToInt(Release::litres).sum();
    }

    private int releasedToday() {
        return releases.stream().filter(one -> one.minute() / 1440 == now / 1440).mapToInt(Release::litres).sum();
    }

    // ---- refusing

    private Plane plane(int aircraft) {
        index(aircraft >= 0 && aircraft < planes.size());
        return planes.get(aircraft);
    }

    private static void ofThree(int number) {
        index(number == 0 || number == 1 || number == 2);
    }

    private static void index(boolean exists) {
        if (!exists) {
            throw new IndexOutOfBoundsException();
        }
    }

    private static void argument(boolean inRange) {
        if (!inRange) {
            throw new IllegalArgumentException();
        }
    }

    private static void state(boolean possible) {
        if (!possible) {
            throw new IllegalStateException();
        }
    }
}
