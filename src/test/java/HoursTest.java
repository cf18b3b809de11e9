/** Promises 9 to 11: hours, close, set. */
public final class HoursTest {
    public static void main(String[] args) {
        hours();
        hoursEndRepairs();
        closeErrors();
        closeFollowsTheDistances();
        closeInTheOrderOfStiles();
        closeTakesTheRateOfEachStile();
        closeHeedsRoom();
        closeEndsEarly();
        closeGoesOnInEitherDirection();
        closeWaitsForNoRepair();
        closeKeepsDistancesForTheHour();
        closePassesNoWrongWay();
        closeLetsNobodyIn();
        closeSlips();
        set();
        Checks.end();
    }

    private static void hours() {
        HallStiles x = new HallStiles();
        int[] bad = {-1, 0, 100, Integer.MIN_VALUE, Integer.MAX_VALUE};
        for (int many : bad) {
            Checks.due("hours(" + many + ")", x.hours(many), HallStiles.BAD_VALUE);
        }
        Checks.due("clock", x.count(0), 0);
        Checks.due("states", x.count(11), 0);
        Checks.due("hours(1)", x.hours(1), 0);
        Checks.due("hours(99)", x.hours(99), 0);
        Checks.due("clock", x.count(0), 100);
        Checks.due("states", x.count(11), 2);
    }

    private static void hoursEndRepairs() {
        HallStiles x = new HallStiles();
        for (int i = 0; i < 12; i++) {
            x.stile(0, 1);
            x.set(HallStiles.HOURS, i + 1);
            Checks.due("repair " + i, x.repair(i), i + 1);
        }
        Checks.due("under repair", x.count(2), 12);
        Checks.due("hours(1)", x.hours(1), 1);
        Checks.due("hours(4)", x.hours(4), 4);
        Checks.due("under repair", x.count(2), 7);
        Checks.due("stile 5", x.stileOf(5, 3), 1);
        Checks.due("stile 11", x.stileOf(11, 3), 7);
        Checks.due("hours(99)", x.hours(99), 7);
        Checks.due("stile 11", x.stileOf(11, 3), 0);
        Checks.due("hours(99)", x.hours(99), 0);
    }

    private static void closeErrors() {
        HallStiles x = new HallStiles();
        int[] bad = {-1, 0, 100, Integer.MIN_VALUE, Integer.MAX_VALUE};
        for (int many : bad) {
            Checks.due("close(" + many + ")", x.close(many), HallStiles.BAD_VALUE);
        }
        Checks.due("states", x.count(11), 0);
        Checks.due("close(1)", x.close(1), 0);
        Checks.due("clock", x.count(0), 1);
        Checks.due("states", x.count(11), 1);
        Checks.due("close(99)", x.close(99), 0);
        Checks.due("the first hour without anybody is the last", x.count(0), 2);
    }

    private static void closeFollowsTheDistances() {
        HallStiles x = new HallStiles();
        x.stile(0, 1);
        x.stile(1, 2);
        x.stile(2, 3);
        x.stile(3, 1);
        x.pass(0, true, 90);
        x.pass(1, true, 90);
        x.pass(2, true, 50);
        // Hall 2 and hall 3 are both at the distance 2, so nobody passes stile 2.
        Checks.due("close(1)", x.close(1), 90);
        Checks.due("hall 1", x.hall(1, 1), 60);
        Checks.due("hall 2", x.hall(2, 1), 10);
        Checks.due("hall 3", x.hall(3, 1), 20);
        Checks.due("clock", x.count(0), 1);
        Checks.due("stile 2 from first", x.counter(2, 0, 0), 50);
        Checks.due("stile 2 from second", x.counter(2, 2, 0), 0);
        Checks.due("close(2)", x.close(2), 30);
        Checks.due("hall 1", x.hall(1, 1), 30);
        Checks.due("close(1)", x.close(1), 0);
    }

    private static void closeInTheOrderOfStiles() {
        // Ahead of the stile to the street, the inner one brings people on in the same hour.
        HallStiles x = new HallStiles();
        x.stile(2, 1);
        x.stile(1, 0);
        x.pass(1, false, 20);
        x.pass(0, false, 20);
        Checks.due("inner first", x.close(1), 0);
        HallStiles y = new HallStiles();
        y.stile(1, 0);
        y.stile(2, 1);
        y.pass(0, false, 20);
        y.pass(1, false, 20);
        Checks.due("outer first", y.close(1), 20);
        Checks.due("hall 1", y.hall(1, 1), 20);
    }

    private static void closeTakesTheRateOfEachStile() {
        HallStiles x = new HallStiles();
        x.stile(0, 1);
        x.stile(1, 0);
        x.pass(0, true, 99);
        x.set(HallStiles.RATE, 7);
        Checks.due("7 by each", x.close(1), 85);
        x.set(HallStiles.RATE, 99);
        Checks.due("all", x.close(1), 0);
        Checks.due("by stile 0", x.counter(0, 2, 0), 92);
        Checks.due("by stile 1", x.counter(1, 0, 0), 7);
    }

    private static void closeHeedsRoom() {
        HallStiles x = new HallStiles();
        x.stile(1, 2);
        x.stile(0, 1);
        x.room(1, 10);
        x.pass(1, true, 10);
        x.pass(0, true, 10);
        x.pass(1, true, 8);
        Checks.due("2 go on, 10 go out", x.close(1), 8);
        Checks.due("hall 1", x.hall(1, 1), 0);
        Checks.due("hall 2", x.hall(2, 1), 8);
        HallStiles y = new HallStiles();
        y.stile(1, 2);
        y.stile(0, 1);
        y.pass(1, true, 50);
        y.pass(0, true, 50);
        y.room(1, 4);
        y.set(HallStiles.RATE, 99);
        Checks.due("never more than there is room for", y.close(3), 38);
        Checks.due("clock", y.count(0), 3);
    }

    private static void closeEndsEarly() {
        HallStiles x = new HallStiles();
        x.stile(0, 1);
        x.pass(0, true, 61);
        Checks.due("three hours of passing", x.close(3), 0);
        Checks.due("clock", x.count(0), 3);
        Checks.due("back", x.undo(), 2);
        Checks.due("and one without", x.close(99), 0);
        Checks.due("clock", x.count(0), 4);
    }

    private static void closeGoesOnInEitherDirection() {
        for (int first = 0; first < 2; first++) {
            HallStiles x = new HallStiles();
            x.stile(first, 1 - first);
            x.stile(1 - first, first);
            x.pass(0, first == 0, 90);
            x.open(1, 3);
            Checks.due("one stile, three hours", x.close(3), 0);
            Checks.due("clock", x.count(0), 3);
            x.undo();
            x.open(1, 0);
            Checks.due("both stiles, two hours", x.close(2), 0);
            Checks.due("clock", x.count(0), 2);
        }
    }

    private static void closeWaitsForNoRepair() {
        HallStiles x = new HallStiles();
        x.stile(0, 1);
        x.pass(0, true, 10);
        x.set(HallStiles.HOURS, 2);
        x.repair(0);
        Checks.due("nobody passes", x.close(9), 10);
        Checks.due("clock", x.count(0), 1);
        Checks.due("repair", x.stileOf(0, 3), 1);
        Checks.due("nobody passes", x.close(9), 10);
        Checks.due("clock", x.count(0), 2);
        Checks.due("repair is over", x.stileOf(0, 3), 0);
        Checks.due("all pass", x.close(1), 0);
    }

    private static void closeKeepsDistancesForTheHour() {
        // The repair of the short way is over behind the hour, so its hour still goes the long way.
        HallStiles x = new HallStiles();
        x.stile(0, 1);
        x.stile(0, 2);
        x.stile(1, 2);
        x.pass(0, true, 40);
        x.set(HallStiles.HOURS, 1);
        x.repair(0);
        Checks.due("the long way", x.hall(1, 4), 2);
        Checks.due("30 go to hall 2", x.close(1), 40);
        Checks.due("hall 2", x.hall(2, 1), 30);
        Checks.due("the short way", x.hall(1, 4), 1);
        Checks.due("both go out", x.close(1), 0);
    }

    private static void closePassesNoWrongWay() {
        // The distances fit, but one of the two stiles goes in alone, and one is under repair.
        HallStiles x = new HallStiles();
        x.stile(0, 1);
        x.stile(0, 1);
        x.stile(0, 1);
        x.pass(0, true, 99);
        x.open(0, 1);
        x.repair(1);
        Checks.due("by stile 2 alone", x.close(2), 39);
        Checks.due("stile 0", x.counter(0, 2, 0), 0);
        Checks.due("stile 1", x.counter(1, 2, 0), 0);
        Checks.due("stile 2", x.counter(2, 2, 0), 60);
    }

    private static void closeLetsNobodyIn() {
        // From the street goes nobody, not even to a hall that has no way out.
        HallStiles x = new HallStiles();
        x.stile(0, 1);
        x.stile(1, 2);
        x.open(0, 1);
        x.pass(0, true, 5);
        Checks.due("none goes out", x.close(9), 5);
        Checks.due("hall 1", x.hall(1, 1), 5);
        Checks.due("clock", x.count(0), 1);
    }

    private static void closeSlips() {
        HallStiles x = new HallStiles();
        x.stile(0, 1);
        x.pass(0, true, 40);
        x.slip(0, 2, 7);
        x.slip(0, 1, 4);
        Checks.due("close(1)", x.close(1), 10);
        Checks.due("4 of 30 are missed", x.counter(0, 2, 2), 4);
        Checks.due("7 of 30 are missed", x.counter(0, 1, 2), 7);
        Checks.due("close(1)", x.close(1), 0);
        Checks.due("5 of 40 are missed", x.counter(0, 2, 2), 5);
        Checks.due("10 of 40 are missed", x.counter(0, 1, 2), 10);
        Checks.due("gap", x.stileOf(0, 4), 5);
    }

    private static void set() {
        HallStiles x = new HallStiles();
        int[] bad = {-1, 2, Integer.MIN_VALUE, Integer.MAX_VALUE};
        for (int setting : bad) {
            Checks.due("set(" + setting + ", 0)", x.set(setting, 0), HallStiles.NO_SUCH);
        }
        Checks.due("RATE 0", x.set(HallStiles.RATE, 0), HallStiles.BAD_VALUE);
        Checks.due("RATE 100", x.set(HallStiles.RATE, 100), HallStiles.BAD_VALUE);
        Checks.due("HOURS 0", x.set(HallStiles.HOURS, 0), HallStiles.BAD_VALUE);
        Checks.due("HOURS 49", x.set(HallStiles.HOURS, 49), HallStiles.BAD_VALUE);
        Checks.due("states", x.count(11), 0);
        Checks.due("RATE 99", x.set(HallStiles.RATE, 99), 30);
        Checks.due("RATE 1", x.set(HallStiles.RATE, 1), 99);
        Checks.due("HOURS 48", x.set(HallStiles.HOURS, 48), 6);
        Checks.due("HOURS 1", x.set(HallStiles.HOURS, 1), 48);
        Checks.due("states", x.count(11), 4);
        Checks.due("count(9)", x.count(9), 1);
        Checks.due("count(10)", x.count(10), 1);
    }
}
