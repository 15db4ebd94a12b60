/**
 * An airport on the night it snows: a runway of three thirds, de-icing pads, aircraft whose
 * clocks run out, and the litres of fluid from the tank to the river.
 */
public final class IcePad {
    /** None. */
    public static final int NONE = -1;
    /** What aircraft are. */
    public static final int WAITS = 0, ON_PAD = 1, CLEAN = 2, GONE = 3, CANCELLED = 4;

    private static final int CLEAR = 0, SNOW = 1, RAIN = 2, FROST = 3;
    private static final int DRY = 0, WET = 1, SNOWY = 2, ICY = 3;

    private static final int THIRDS = 3;
    private static final int FLUIDS = 3;
    private static final int MOST_AIRCRAFT = 20;
    private static final int MOST_DEPTH = 5000;
    private static final int MOST_IN_TANK = 100000;
    private static final int MINUTES_OF_DAY = 1440;
    private static final int SPRAY_LASTS = 60;
    private static final int REPORT_LASTS = 30;
    private static final int MELTS_A_MINUTE = 2;
    private static final int PLOUGH_TAKES = 40;
    private static final int PLANT_CLEANS = 3;
    private static final int HOLDS_IF_CLEAR = 1000000;

    /** The widest span of each pad. */
    private static final int[] PAD_SPANS = {40, 60, 80};

    private final Weather sky;
    private final Runway runway;
    private final Fluids fluids;
    private final Basin basin;
    private final Aircraft[] fleet;
    private int fleetSize;
    private int minute;

    /** Opens the airport at the minute 0, with a runway that is DRY, and not closed. */
    public IcePad() {
        sky = new Weather();
        runway = new Runway();
        fluids = new Fluids();
        basin = new Basin();
        fleet = new Aircraft[MOST_AIRCRAFT];
    }

    // ---- weather, runway

    /** Tells the weather from now on. */
    public void weather(int temperature, int fall, int rate, int wind) throws IllegalArgumentException {
        requireRange(temperature, -400, 400);
        requireRange(fall, CLEAR, FROST);
        requireRange(rate, 0, 30);
        requireRange(wind, 0, 60);
        sky.temperature = temperature;
        sky.fall = fall;
        sky.rate = rate;
        sky.wind = wind;
    }

    /** Sprays a third; returns the minute up to which it is sprayed. */
    public int spray(int third) throws IndexOutOfBoundsException {
        requireIndex(third, THIRDS);
        int upTo = minute + SPRAY_LASTS;
        runway.thirds[third].sprayedUpTo = upTo;
        return upTo;
    }

    /** Closes the runway; returns the minute up to which it is closed. */
    public int close(int minutes, int ploughs) throws IllegalArgumentException {
        requireRange(minutes, 1, 500);
        requireRange(ploughs, 0, 11);
        runway.closedUpTo = minute + minutes;
        runway.ploughs = ploughs;
        return runway.closedUpTo;
    }

    /** Tells what a pilot reports of a third; returns the code of the third then. */
    public int pilot(int third, int code) throws IndexOutOfBoundsException, IllegalArgumentException {
        requireIndex(third, THIRDS);
        requireRange(code, 0, 6);
        Third reported = runway.thirds[third];
        reported.reportMinute = minute;
        reported.reportCode = code;
        return reported.codeAt(minute, sky);
    }

    // ---- fluids, pads

    /** Fills a tank; returns what is in it then. */
    public int supply(int fluid, int litres)
            throws IndexOutOfBoundsException, IllegalArgumentException, IllegalStateException {
        requireIndex(fluid, FLUIDS);
        requireRange(litres, 1, 10000);
        requirePossible(fluids.tanks[fluid] + litres <= MOST_IN_TANK);
        fluids.tanks[fluid] += litres;
        fluids.supplied += litres;
        return fluids.tanks[fluid];
    }

    /** Sets the table for a fluid and a fall; returns what it was. */
    public int table(int fluid, int fall, int minutes) throws IndexOutOfBoundsException, IllegalArgumentException {
        requireIndex(fluid, FLUIDS);
        requireRange(fall, SNOW, FROST);
        requireRange(minutes, 1, 1000);
        int before = fluids.minutes[fluid][fall];
        fluids.minutes[fluid][fall] = minutes;
        return before;
    }

    /** Tells an aircraft; returns its number. */
    public int aircraft(int span, int slot, int duty) throws IllegalArgumentException, IllegalStateException {
        requireRange(span, 10, 80);
        requireRange(slot, 0, 2000);
        requireRange(duty, 0, 2000);
        requirePossible(fleetSize < MOST_AIRCRAFT);
        int number = fleetSize;
        fleet[number] = new Aircraft(span, minute + slot, minute + duty);
        fleetSize++;
        return number;
    }

    /** Treats an aircraft; returns the minute in which it is CLEAN. */
    public int treat(int aircraft, int pad, int fluid, int litres, int strength)
            throws IndexOutOfBoundsException, IllegalArgumentException, IllegalStateException {
        requireIndex(aircraft, fleetSize);
        requireIndex(pad, PAD_SPANS.length);
        requireIndex(fluid, FLUIDS);
        requireRange(litres, 10, 2000);
        requireStrength(strength);
        Aircraft treated = fleet[aircraft];
        requirePossible(treated.state == WAITS || treated.state == CLEAN);
        requirePossible(padIsFree(pad) && treated.span <= PAD_SPANS[pad]);
        requirePossible(litres <= fluids.tanks[fluid]);
        fluids.tanks[fluid] -= litres;
        basin.litres += treated.beginTreatment(pad, litres, minute);
        treated.fluid = fluid;
        treated.strength = strength;
        return treated.cleanMinute;
    }

    /** Cancels an aircraft; returns what it was. */
    public int cancel(int aircraft) throws IndexOutOfBoundsException, IllegalStateException {
        requireIndex(aircraft, fleetSize);
        Aircraft cancelled = fleet[aircraft];
        requirePossible(!cancelled.isOver());
        int before = cancelled.state;
        cancelled.state = CANCELLED;
        return before;
    }

    // ---- the river, minutes

    /** Sets the permit; returns what it was. */
    public int permit(int litres) throws IllegalArgumentException {
        requireRange(litres, 0, 100000);
        int before = basin.permitADay;
        basin.permitADay = litres;
        return before;
    }

    /** Lets litres into the river; returns how many went in today. */
    public int release(int litres) throws IllegalArgumentException, IllegalStateException {
        requireRange(litres, 1, 100000);
        int today = minute / MINUTES_OF_DAY;
        int wouldBe = basin.riverOn(today) + litres;
        requirePossible(litres <= basin.litres && wouldBe <= basin.permitADay);
        basin.litres -= litres;
        basin.river += litres;
        basin.riverDay = today;
        basin.riverThatDay = wouldBe;
        return wouldBe;
    }

    /** Lets minutes pass, one by one; returns the minute then. */
    public int pass(int minutes) throws IllegalArgumentException {
        requireRange(minutes, 1, 500);
        for (int i = 0; i < minutes; i++) {
            liveMinute();
        }
        return minute;
    }

    // ---- asking

    /** Returns the code of a third. */
    public int code(int third) throws IndexOutOfBoundsException {
        requireIndex(third, THIRDS);
        return runway.thirds[third].codeAt(minute, sky);
    }

    /** Returns the cover (0), the depth (1), whether it is sprayed (2), or the code by what lies there (3). */
    public int thirdOf(int third, int what) throws IndexOutOfBoundsException, IllegalArgumentException {
        requireIndex(third, THIRDS);
        requireRange(what, 0, 3);
        Third asked = runway.thirds[third];
        switch (what) {
            case 0:
                return asked.cover;
            case 1:
                return asked.depth;
            case 2:
                return asked.isSprayedAt(minute) ? 1 : 0;
            default:
                return asked.codeOfWhatLies(sky);
        }
    }

    /** Returns whether the runway is good. */
    public boolean isGood() {
        return runway.isUsableAt(minute, sky);
    }

    /** Returns what it is (0), when it left (1), treatments (2), litres on it (3), or its pad (4). */
    public int aircraftOf(int aircraft, int what) throws IndexOutOfBoundsException, IllegalArgumentException {
        requireIndex(aircraft, fleetSize);
        requireRange(what, 0, 4);
        Aircraft asked = fleet[aircraft];
        switch (what) {
            case 0:
                return asked.state;
            case 1:
                return asked.leftMinute;
            case 2:
                return asked.treatments;
            case 3:
                return asked.litresOn;
            default:
                return asked.state == ON_PAD ? asked.pad : NONE;
        }
    }

    /** Returns what the clock of an aircraft has left; below 0 if it has run out. */
    public double clock(int aircraft) throws IndexOutOfBoundsException, IllegalStateException {
        requireIndex(aircraft, fleetSize);
        requirePossible(fleet[aircraft].treatments > 0);
        return clockLeft(fleet[aircraft]);
    }

    /** Returns why an aircraft would not leave now: 1 to 5, or 0 if it would. */
    public int whyNot(int aircraft) throws IndexOutOfBoundsException {
        requireIndex(aircraft, fleetSize);
        Aircraft asked = fleet[aircraft];
        if (asked.state != CLEAN) {
            return 1;
        }
        if (asked.slot > minute) {
            return 2;
        }
        if (clockLeft(asked) < 0) {
            return 3;
        }
        if (runway.isClosedAt(minute)) {
            return 4;
        }
        return runway.codesSufficeAt(minute, sky) ? 0 : 5;
    }

    /** Returns the aircraft at a place of the queue, or NONE if there are not so many. */
    public int queue(int place) throws IndexOutOfBoundsException {
        if (place < 0) {
            throw new IndexOutOfBoundsException("no such place");
        }
        for (int i = 0; i < fleetSize; i++) {
            if (fleet[i].state == CLEAN && placeInQueue(i) == place) {
                return i;
            }
        }
        return NONE;
    }

    /**
     * Returns a sum of litres: supplied (0), in the tanks (1), on aircraft (2), in the basin (3), cleaned (4),
     * in the river (5); or of depth: the heap (6).
     */
    public int sum(int what) throws IllegalArgumentException {
        requireRange(what, 0, 6);
        switch (what) {
            case 0:
                return fluids.supplied;
            case 1:
                return fluids.inTanks();
            case 2:
                return litresOnFleet();
            case 3:
                return basin.litres;
            case 4:
                return basin.cleaned;
            case 5:
                return basin.river;
            default:
                return runway.heap;
        }
    }

    // ---- a minute

    private void liveMinute() {
        minute++;
        runway.liveMinute(minute, sky);
        endTreatments();
        basin.cleanMinute();
        cancelBehindDuty();
        sendBackWithoutClock();
        if (runway.isUsableAt(minute, sky)) {
            letOneLeave();
        }
    }

    private void endTreatments() {
        for (int i = 0; i < fleetSize; i++) {
            if (fleet[i].state == ON_PAD && fleet[i].cleanMinute <= minute) {
                fleet[i].state = CLEAN;
            }
        }
    }

    private void cancelBehindDuty() {
        for (int i = 0; i < fleetSize; i++) {
            if (!fleet[i].isOver() && fleet[i].duty < minute) {
                fleet[i].state = CANCELLED;
            }
        }
    }

    private void sendBackWithoutClock() {
        for (int i = 0; i < fleetSize; i++) {
            if (fleet[i].state == CLEAN && clockLeft(fleet[i]) < 0) {
                fleet[i].state = WAITS;
            }
        }
    }

    private void letOneLeave() {
        int first = NONE;
        for (int i = 0; i < fleetSize; i++) {
            boolean mayLeave = fleet[i].state == CLEAN && fleet[i].slot <= minute;
            if (mayLeave && (first == NONE || goesAhead(i, first))) {
                first = i;
            }
        }
        if (first != NONE) {
            fleet[first].state = GONE;
            fleet[first].leftMinute = minute;
        }
    }

    // ---- aircraft among one another

    private boolean padIsFree(int pad) {
        for (int i = 0; i < fleetSize; i++) {
            if (fleet[i].state == ON_PAD && fleet[i].pad == pad) {
                return false;
            }
        }
        return true;
    }

    private int placeInQueue(int number) {
        int ahead = 0;
        for (int i = 0; i < fleetSize; i++) {
            if (i != number && fleet[i].state == CLEAN && goesAhead(i, number)) {
                ahead++;
            }
        }
        return ahead;
    }

    private boolean goesAhead(int one, int other) {
        double oneLeft = clockLeft(fleet[one]);
        double otherLeft = clockLeft(fleet[other]);
        return oneLeft < otherLeft || (oneLeft == otherLeft && one < other);
    }

    private double clockLeft(Aircraft treated) {
        return fluids.holdsFor(treated.fluid, treated.strength, sky) - (minute - treated.clockBegan);
    }

    private int litresOnFleet() {
        int all = 0;
        for (int i = 0; i < fleetSize; i++) {
            all += fleet[i].litresOn;
        }
        return all;
    }

    // ---- what calls require

    private static void requireIndex(int index, int count) {
        if (index < 0 || index >= count) {
            throw new IndexOutOfBoundsException("there is no such one");
        }
    }

    private static void requireRange(int value, int low, int high) {
        if (value < low || value > high) {
            throw new IllegalArgumentException("an argument is out of range");
        }
    }

    private static void requireStrength(int strength) {
        if (strength != 50 && strength != 75 && strength != 100) {
            throw new IllegalArgumentException("there is no such strength");
        }
    }

    private static void requirePossible(boolean possible) {
        if (!possible) {
            throw new IllegalStateException("this is not possible now");
        }
    }

    // ---- the parts of the airport

    /** The weather of now; all 0 is the weather at first. */
    private static final class Weather {
        int temperature;
        int fall;
        int rate;
        int wind;

        int codeNeeded() {
            if (wind <= 10) {
                return 1;
            }
            if (wind <= 20) {
                return 3;
            }
            return wind <= 30 ? 5 : 7;
        }

        double holdFactor() {
            if (temperature >= -30) {
                return 1.0;
            }
            return temperature >= -100 ? 0.75 : 0.5;
        }
    }

    /** A third of the runway. */
    private static final class Third {
        int cover = DRY;
        int depth;
        int sprayedUpTo = NONE;
        int reportMinute = NONE;
        int reportCode;

        boolean isSprayedAt(int minute) {
            return minute <= sprayedUpTo;
        }

        int codeOfWhatLies(Weather sky) {
            boolean veryCold = sky.temperature < -30;
            switch (cover) {
                case DRY:
                    return 6;
                case WET:
                    return 5;
                case SNOWY:
                    if (depth <= 30 && veryCold) {
                        return 5;
                    }
                    return depth <= 100 ? 3 : 2;
                default:
                    return veryCold ? 1 : 0;
            }
        }

        int codeAt(int minute, Weather sky) {
            int lying = codeOfWhatLies(sky);
            boolean reportCounts = reportMinute != NONE && minute - reportMinute <= REPORT_LASTS;
            return reportCounts && reportCode < lying ? reportCode : lying;
        }

        void liveMinute(int minute, Weather sky) {
            boolean freezes = sky.temperature < 0 && !isSprayedAt(minute);
            if (sky.fall == SNOW) {
                snowOn(sky.rate);
            } else if (sky.fall == RAIN) {
                rainOn(sky.rate, freezes);
            } else if (sky.fall == FROST && freezes) {
                iceOver();
            }
            if (sky.temperature > 20) {
                melt();
            }
            if (freezes && cover == WET) {
                iceOver();
            }
        }

        void snowOn(int rate) {
            if (cover != ICY) {
                cover = SNOWY;
            }
            addDepth(rate);
        }

        void rainOn(int rate, boolean freezes) {
            if (freezes) {
                cover = ICY;
                addDepth(rate);
            } else if (cover == DRY) {
                cover = WET;
                depth = 0;
            }
        }

        void iceOver() {
            if (cover == DRY || cover == WET) {
                cover = ICY;
                depth = 1;
            }
        }

        void melt() {
            if (cover != SNOWY && cover != ICY) {
                return;
            }
            depth -= MELTS_A_MINUTE;
            if (depth <= 0) {
                cover = WET;
                depth = 0;
            }
        }

        void addDepth(int more) {
            depth = Math.min(depth + more, MOST_DEPTH);
        }

        int ploughUpTo(int most) {
            if (cover != SNOWY) {
                return 0;
            }
            int taken = Math.min(depth, most);
            depth -= taken;
            return taken;
        }

        void wetIfBare() {
            if (cover == SNOWY && depth == 0) {
                cover = WET;
            }
        }
    }

    /** The runway: its thirds, and the ploughs while it is closed. */
    private static final class Runway {
        final Third[] thirds;
        int closedUpTo = NONE;
        int ploughs;
        int heap;

        Runway() {
            thirds = new Third[THIRDS];
            for (int i = 0; i < thirds.length; i++) {
                thirds[i] = new Third();
            }
        }

        boolean isClosedAt(int minute) {
            return minute <= closedUpTo;
        }

        boolean codesSufficeAt(int minute, Weather sky) {
            int needed = sky.codeNeeded();
            for (int i = 0; i < thirds.length; i++) {
                if (thirds[i].codeAt(minute, sky) < needed) {
                    return false;
                }
            }
            return true;
        }

        boolean isUsableAt(int minute, Weather sky) {
            return !isClosedAt(minute) && codesSufficeAt(minute, sky);
        }

        void liveMinute(int minute, Weather sky) {
            for (int i = 0; i < thirds.length; i++) {
                thirds[i].liveMinute(minute, sky);
            }
            if (isClosedAt(minute)) {
                plough();
            }
        }

        void plough() {
            int most = ploughs * PLOUGH_TAKES;
            for (int i = 0; i < thirds.length; i++) {
                int taken = thirds[i].ploughUpTo(most);
                most -= taken;
                heap += taken;
                thirds[i].wetIfBare();
            }
        }
    }

    /** The tanks, and the table of how long a fluid holds in a fall. */
    private static final class Fluids {
        final int[] tanks;
        /** By fluid and by fall; the column of CLEAR is not used. */
        final int[][] minutes;
        int supplied;

        Fluids() {
            tanks = new int[FLUIDS];
            minutes = new int[FLUIDS][FROST + 1];
            for (int fluid = 0; fluid < FLUIDS; fluid++) {
                int holds = 20 + 40 * fluid;
                minutes[fluid][SNOW] = holds;
                minutes[fluid][RAIN] = Math.max(holds - 30, 5);
                minutes[fluid][FROST] = holds;
            }
        }

        int inTanks() {
            int all = 0;
            for (int i = 0; i < tanks.length; i++) {
                all += tanks[i];
            }
            return all;
        }

        double holdsFor(int fluid, int strength, Weather sky) {
            if (sky.fall == CLEAR) {
                return HOLDS_IF_CLEAR;
            }
            return minutes[fluid][sky.fall] * (strength / 100.0) * sky.holdFactor();
        }
    }

    /** The run-off: gathered, cleaned by the plant, and let into the river. */
    private static final class Basin {
        int litres;
        int cleaned;
        int river;
        int permitADay = 500;
        /** The last day on which litres went into the river, and how many did. */
        int riverDay;
        int riverThatDay;

        int riverOn(int day) {
            return day == riverDay ? riverThatDay : 0;
        }

        void cleanMinute() {
            int now = Math.min(litres, PLANT_CLEANS);
            litres -= now;
            cleaned += now;
        }
    }

    /** An aircraft; slot and duty are minutes of the airport, not spans of time. */
    private static final class Aircraft {
        final int span;
        final int slot;
        final int duty;
        int state = WAITS;
        int leftMinute = NONE;
        int treatments;
        int litresOn;
        /** The pad, fluid, strength and minutes of the latest treatment; they mean nothing before one. */
        int pad;
        int fluid;
        int strength;
        int clockBegan;
        int cleanMinute;

        Aircraft(int span, int slot, int duty) {
            this.span = span;
            this.slot = slot;
            this.duty = duty;
        }

        boolean isOver() {
            return state == GONE || state == CANCELLED;
        }

        /** Returns the litres that run off it. */
        int beginTreatment(int onPad, int litres, int now) {
            int stays = litres * 20 / 100;
            state = ON_PAD;
            pad = onPad;
            treatments++;
            litresOn += stays;
            clockBegan = now;
            cleanMinute = now + 2 + litres / 100;
            return litres - stays;
        }
    }
}
