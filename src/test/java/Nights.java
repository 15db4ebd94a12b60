/** Airports at some minute of a night, made anew by each call, for tests to begin with. */
final class Nights {
    private static final int SNOW = 1;

    private Nights() {
    }

    /** Here a change of what is hidden would show: of weather, closure, spray, report, table, permit, river. */
    static IcePad busy() {
        IcePad x = new IcePad();
        x.supply(0, 10000);
        x.supply(1, 300);
        x.table(1, SNOW, 33);
        x.permit(600);
        x.aircraft(20, 0, 900);
        x.aircraft(20, 0, 900);
        x.aircraft(50, 40, 900);
        x.aircraft(50, 0, 900);
        x.aircraft(61, 9, 12);
        x.treat(0, 0, 0, 10, 100);
        x.treat(2, 1, 0, 100, 100);
        x.cancel(1);
        x.pass(3);
        x.release(5);
        x.treat(3, 1, 0, 2000, 75);
        x.weather(-50, SNOW, 7, 5);
        x.spray(0);
        x.pilot(1, 0);
        x.close(4, 1);
        x.pass(1);
        return x;
    }

    /** In busy(): how many aircraft there are, and one of each kind. */
    static final int BUSY_AIRCRAFT = 5;
    static final int LEFT = 0, CALLED_OFF = 1, CLEANED = 2, TREATED = 3, WAITING = 4;

    /** As many aircraft as may be, with all pads free, and 10000 litres in each tank. */
    static IcePad fleet() {
        IcePad x = new IcePad();
        for (int fluid = 0; fluid < 3; fluid++) {
            x.supply(fluid, 10000);
        }
        for (int i = 0; i < 20; i++) {
            x.aircraft(20, 300 + i, 600);
        }
        return x;
    }

    /** A fleet, all of it treated and clean, and no slot has come. */
    static IcePad cleanFleet() {
        IcePad x = fleet();
        for (int i = 0; i < 20; i += 2) {
            x.treat(i, 0, 0, 10, 100);
            x.treat(i + 1, 1, 1, 10, 50);
            x.pass(2);
        }
        return x;
    }

    /** Each tank holds as much as may be. */
    static IcePad fullTanks() {
        IcePad x = new IcePad();
        for (int fluid = 0; fluid < 3; fluid++) {
            for (int i = 0; i < 10; i++) {
                x.supply(fluid, 10000);
            }
        }
        return x;
    }

    /** More in the basin than may be let into the river on one day, by the highest permit there is. */
    static IcePad fullBasin() {
        IcePad x = fullTanks();
        x.permit(100000);
        for (int pad = 0; pad < 3; pad++) {
            x.aircraft(20, 2000, 2000);
        }
        for (int round = 0; round < 22; round++) {
            for (int pad = 0; pad < 3; pad++) {
                x.treat(pad, pad, pad, 2000, 100);
            }
            x.pass(22);
        }
        return x;
    }
}
