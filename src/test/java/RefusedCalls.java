import java.util.function.ToIntFunction;

/** Calls that a busy object must refuse, and those that only ask. */
final class RefusedCalls {
    record Refused(String name, int due, ToIntFunction<HallStiles> call) {
    }

    private static final int NO_SUCH = HallStiles.NO_SUCH;
    private static final int BAD_VALUE = HallStiles.BAD_VALUE;
    private static final int NOT_POSSIBLE = HallStiles.NOT_POSSIBLE;

    static final Refused[] ALL = {
        new Refused("stile(6, 0)", NO_SUCH, x -> x.stile(6, 0)),
        new Refused("stile(0, -1)", NO_SUCH, x -> x.stile(0, -1)),
        new Refused("stile(2, 2)", BAD_VALUE, x -> x.stile(2, 2)),
        new Refused("stile(0, 1)", HallStiles.TOO_MANY, x -> x.stile(0, 1)),
        new Refused("open(12, 0)", NO_SUCH, x -> x.open(12, 0)),
        new Refused("open(-1, 0)", NO_SUCH, x -> x.open(-1, 0)),
        new Refused("open(0, -1)", BAD_VALUE, x -> x.open(0, -1)),
        new Refused("open(0, 4)", BAD_VALUE, x -> x.open(0, 4)),
        new Refused("room(0, 100)", NO_SUCH, x -> x.room(0, 100)),
        new Refused("room(6, 100)", NO_SUCH, x -> x.room(6, 100)),
        new Refused("room(1, 0)", BAD_VALUE, x -> x.room(1, 0)),
        new Refused("room(1, 501)", BAD_VALUE, x -> x.room(1, 501)),
        new Refused("room for fewer", NOT_POSSIBLE, x -> x.room(1, x.hall(1, 1) - 1)),
        new Refused("slip(12, 0, 2)", NO_SUCH, x -> x.slip(12, 0, 2)),
        new Refused("slip(0, -1, 2)", BAD_VALUE, x -> x.slip(0, -1, 2)),
        new Refused("slip(0, 4, 2)", BAD_VALUE, x -> x.slip(0, 4, 2)),
        new Refused("slip(0, 0, -1)", BAD_VALUE, x -> x.slip(0, 0, -1)),
        new Refused("slip(0, 0, 1)", BAD_VALUE, x -> x.slip(0, 0, 1)),
        new Refused("slip(0, 0, 10)", BAD_VALUE, x -> x.slip(0, 0, 10)),
        new Refused("pass(12, true, 1)", NO_SUCH, x -> x.pass(12, true, 1)),
        new Refused("pass(0, true, 0)", BAD_VALUE, x -> x.pass(0, true, 0)),
        new Refused("pass(0, true, 100)", BAD_VALUE, x -> x.pass(0, true, 100)),
        new Refused("pass under repair", -11, x -> x.pass(1, true, 1)),
        new Refused("pass of a locked stile", -12, x -> x.pass(2, true, 1)),
        new Refused("pass of more people", -13, x -> x.pass(0, false, x.hall(1, 1) + 1)),
        new Refused("pass without room", -14,
                x -> x.pass(0, true, x.hall(1, 0) - x.hall(1, 1) + 1)),
        new Refused("audit(12)", NO_SUCH, x -> x.audit(12)),
        new Refused("audit(-1)", NO_SUCH, x -> x.audit(-1)),
        new Refused("repair(12)", NO_SUCH, x -> x.repair(12)),
        new Refused("repair(-1)", NO_SUCH, x -> x.repair(-1)),
        new Refused("repair under repair", NOT_POSSIBLE, x -> x.repair(1)),
        new Refused("hours(0)", BAD_VALUE, x -> x.hours(0)),
        new Refused("hours(100)", BAD_VALUE, x -> x.hours(100)),
        new Refused("close(0)", BAD_VALUE, x -> x.close(0)),
        new Refused("close(100)", BAD_VALUE, x -> x.close(100)),
        new Refused("set(-1, 1)", NO_SUCH, x -> x.set(-1, 1)),
        new Refused("set(2, 1)", NO_SUCH, x -> x.set(2, 1)),
        new Refused("set(RATE, 0)", BAD_VALUE, x -> x.set(HallStiles.RATE, 0)),
        new Refused("set(RATE, 100)", BAD_VALUE, x -> x.set(HallStiles.RATE, 100)),
        new Refused("set(HOURS, 0)", BAD_VALUE, x -> x.set(HallStiles.HOURS, 0)),
        new Refused("set(HOURS, 49)", BAD_VALUE, x -> x.set(HallStiles.HOURS, 49)),
        new Refused("append(31)", BAD_VALUE, x -> x.append(31)),
        new Refused("append(127)", BAD_VALUE, x -> x.append(127)),
        new Refused("run of no script", -107, x -> x.run())};

    private RefusedCalls() {
    }

    /**
     * Twelve stiles into the halls 1 and 2, with slips, of which some have seen people; the stile
     * 1 is under repair, the stile 2 locked; the history is full, and there is a snapshot. The
     * text is no script, so that run records nothing.
     */
    static HallStiles busy() {
        HallStiles x = new HallStiles();
        for (int stile = 0; stile < 12; stile++) {
            x.stile(0, 1 + stile % 2);
            x.slip(stile, stile % 4, 2 + stile % 8);
        }
        x.room(1, 80);
        x.pass(0, true, 13);
        x.pass(4, true, 11);
        x.pass(6, true, 31);
        x.pass(6, false, 4);
        x.save();
        Checks.write(x, "A>5,h1,");
        x.repair(1);
        x.open(2, 3);
        x.hours(2);
        x.set(HallStiles.RATE, 4);
        x.pass(0, true, 2);
        return x;
    }

    /** The questions, those too that are asked wrongly. */
    static void askAll(HallStiles x) {
        Look.atState(x);
        Look.atRest(x);
        for (int stile = -1; stile <= 12; stile++) {
            x.most(stile, true);
            x.most(stile, false);
            x.reason(stile, true, 99);
            x.reason(stile, false, 0);
            x.leftWithout(stile, 99);
            x.leftWithout(stile, 100);
            x.worst(stile);
            x.hall(stile, -1);
            x.stileOf(stile, 5);
            x.counter(stile, 4, 0);
            x.counter(stile, 0, 3);
            x.count(stile + 2);
        }
        x.emptyIn();
        x.fullness();
    }
}
