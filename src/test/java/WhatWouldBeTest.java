/** Promises 25 to 28: most, emptyIn, leftWithout, fullness. */
public final class WhatWouldBeTest {
    public static void main(String[] args) {
        mostErrors();
        mostOfPeopleAndRoom();
        mostOfWaysAndRepair();
        emptyInHours();
        emptyInWaitsForRepairs();
        emptyInOfTheLongestWait();
        emptyInWithin300();
        leftWithoutErrors();
        leftWithout();
        leftWithoutWaitsForRepairs();
        nothingIsChanged();
        fullness();
        Checks.end();
    }

    private static void mostErrors() {
        HallStiles x = new HallStiles();
        Checks.due("most(0)", x.most(0, true), HallStiles.NO_SUCH);
        x.stile(0, 1);
        Checks.due("most(-1)", x.most(-1, true), HallStiles.NO_SUCH);
        Checks.due("most(1)", x.most(1, false), HallStiles.NO_SUCH);
        Checks.due("most(max)", x.most(Integer.MAX_VALUE, false), HallStiles.NO_SUCH);
    }

    private static void mostOfPeopleAndRoom() {
        HallStiles x = new HallStiles();
        x.stile(0, 1);
        x.stile(1, 2);
        Checks.due("in", x.most(0, true), 99);
        Checks.due("out", x.most(0, false), 0);
        x.room(1, 98);
        Checks.due("as much as room", x.most(0, true), 98);
        x.pass(0, true, 30);
        Checks.due("as much as room left", x.most(0, true), 68);
        Checks.due("as many as people", x.most(0, false), 30);
        Checks.due("as many as people", x.most(1, true), 30);
        x.room(2, 29);
        Checks.due("as much as room", x.most(1, true), 29);
        x.pass(1, true, 29);
        Checks.due("no room", x.most(1, true), 0);
        Checks.due("back", x.most(1, false), 29);
        x.room(1, 500);
        x.pass(0, true, 99);
        Checks.due("99 at once", x.most(0, true), 99);
        x.pass(0, true, 99);
        Checks.due("99 at once", x.most(0, false), 99);
        x.room(2, 500);
        Checks.due("99 at once", x.most(1, true), 99);
    }

    private static void mostOfWaysAndRepair() {
        HallStiles x = new HallStiles();
        x.stile(0, 1);
        x.pass(0, true, 30);
        int[] in = {70, 70, 0, 0};
        int[] out = {30, 0, 30, 0};
        for (int ways = 0; ways < 4; ways++) {
            x.open(0, ways);
            Checks.due("in, ways " + ways, x.most(0, true), in[ways]);
            Checks.due("out, ways " + ways, x.most(0, false), out[ways]);
        }
        x.open(0, 0);
        x.repair(0);
        Checks.due("in, under repair", x.most(0, true), 0);
        Checks.due("out, under repair", x.most(0, false), 0);
        x.hours(6);
        Checks.due("in", x.most(0, true), 70);
    }

    private static void emptyInHours() {
        HallStiles x = new HallStiles();
        Checks.due("empty", x.emptyIn(), 0);
        x.stile(0, 1);
        for (int people = 1; people <= 90; people++) {
            x.pass(0, true, 1);
            Checks.due("of " + people, x.emptyIn(), (people + 29) / 30);
        }
        x.open(0, 3);
        Checks.due("locked", x.emptyIn(), HallStiles.NONE);
        x.open(0, 1);
        Checks.due("in alone", x.emptyIn(), HallStiles.NONE);
        x.open(0, 2);
        Checks.due("out alone", x.emptyIn(), 3);
        x.set(HallStiles.RATE, 1);
        Checks.due("one by one", x.emptyIn(), 90);
    }

    private static void emptyInWaitsForRepairs() {
        HallStiles x = new HallStiles();
        x.stile(0, 1);
        x.pass(0, true, 31);
        x.set(HallStiles.HOURS, 48);
        x.repair(0);
        Checks.due("48 hours without anybody, and 2", x.emptyIn(), 50);
        x.hours(47);
        Checks.due("the last hour of the repair, and 2", x.emptyIn(), 3);
        x.hours(1);
        Checks.due("2", x.emptyIn(), 2);
        x.repair(0);
        x.stile(1, 0);
        x.open(1, 1);
        Checks.due("another way meanwhile", x.emptyIn(), 2);
        x.open(1, 3);
        Checks.due("a repair alone", x.emptyIn(), 50);
        x.repair(1);
        x.open(0, 3);
        Checks.due("both repairs bring nothing", x.emptyIn(), HallStiles.NONE);
    }

    /** Puts people into hall 1, who go out of it one by one, each in an hour of closing. */
    private static HallStiles fullHall(int people) {
        HallStiles x = new HallStiles();
        x.stile(0, 1);
        x.room(1, 500);
        int left = people;
        while (left > 0) {
            int some = Math.min(99, left);
            x.pass(0, true, some);
            left -= some;
        }
        x.set(HallStiles.RATE, 1);
        return x;
    }

    private static void emptyInOfTheLongestWait() {
        HallStiles x = fullHall(260);
        x.set(HallStiles.HOURS, 40);
        x.repair(0);
        Checks.due("40 and 260 hours", x.emptyIn(), 300);
        x.hours(1);
        Checks.due("39 and 260 hours", x.emptyIn(), 299);
        x.pass(0, true, 1);
        x.hours(39);
        x.pass(0, true, 1);
        Checks.due("261 hours", x.emptyIn(), 261);
    }

    private static void emptyInWithin300() {
        HallStiles x = fullHall(299);
        Checks.due("299", x.emptyIn(), 299);
        x.pass(0, true, 1);
        Checks.due("300", x.emptyIn(), 300);
        x.pass(0, true, 1);
        Checks.due("301", x.emptyIn(), HallStiles.NONE);
        x.set(HallStiles.RATE, 2);
        Checks.due("by twos", x.emptyIn(), 151);
    }

    private static void leftWithoutErrors() {
        HallStiles x = new HallStiles();
        Checks.due("leftWithout(0, 0)", x.leftWithout(0, 0), HallStiles.NO_SUCH);
        x.stile(0, 1);
        Checks.due("leftWithout(1, 1)", x.leftWithout(1, 1), HallStiles.NO_SUCH);
        Checks.due("leftWithout(-1, 1)", x.leftWithout(-1, 1), HallStiles.NO_SUCH);
        int[] bad = {-1, 0, 100, Integer.MIN_VALUE, Integer.MAX_VALUE};
        for (int many : bad) {
            Checks.due("leftWithout(0, " + many + ")", x.leftWithout(0, many),
                    HallStiles.BAD_VALUE);
        }
        Checks.due("nobody", x.leftWithout(0, 99), 0);
    }

    private static void leftWithout() {
        HallStiles x = new HallStiles();
        x.stile(0, 1);
        x.stile(1, 2);
        x.stile(2, 0);
        x.pass(0, true, 90);
        Checks.due("without the door", x.leftWithout(0, 1), 60);
        Checks.due("without the door", x.leftWithout(0, 2), 30);
        Checks.due("without the door", x.leftWithout(0, 3), 0);
        Checks.due("without the door", x.leftWithout(0, 99), 0);
        Checks.due("without stile 1", x.leftWithout(1, 1), 60);
        x.open(2, 3);
        Checks.due("without both doors", x.leftWithout(0, 99), 90);
        Checks.due("without stile 2", x.leftWithout(2, 3), 0);
    }

    private static void leftWithoutWaitsForRepairs() {
        HallStiles x = new HallStiles();
        x.stile(0, 1);
        x.stile(0, 1);
        x.pass(0, true, 50);
        x.repair(1);
        Checks.due("6 hours without anybody", x.leftWithout(0, 6), 50);
        Checks.due("and one more", x.leftWithout(0, 7), 20);
        Checks.due("and two more", x.leftWithout(0, 8), 0);
        Checks.due("without stile 1", x.leftWithout(1, 1), 20);
        x.open(0, 3);
        Checks.due("locked anyway", x.leftWithout(0, 7), 20);
        Checks.due("repaired but locked", x.leftWithout(1, 99), 50);
    }

    private static void nothingIsChanged() {
        HallStiles x = new HallStiles();
        x.stile(0, 1);
        x.slip(0, 2, 3);
        x.pass(0, true, 70);
        x.repair(0);
        x.save();
        for (int i = 0; i < 2; i++) {
            Checks.due("emptyIn", x.emptyIn(), 9);
            Checks.due("leftWithout", x.leftWithout(0, 50), 70);
            Checks.due("most", x.most(0, false), 0);
            Checks.due("clock", x.count(0), 0);
            Checks.due("people", x.count(3), 70);
            Checks.due("ways", x.stileOf(0, 2), 0);
            Checks.due("repair", x.stileOf(0, 3), 6);
            Checks.due("slip", x.counter(0, 2, 1), 3);
            Checks.due("count", x.counter(0, 2, 0), 0);
            Checks.due("states", x.count(11), 4);
        }
        Checks.due("the snapshot stays", x.restore(), 70);
    }

    private static void fullness() {
        HallStiles x = new HallStiles();
        x.stile(0, 1);
        x.pass(0, true, 50);
        Checks.dueDouble("a tenth", x.fullness(), 50.0 / 500.0);
        x.room(5, 1);
        Checks.dueDouble("of 401", x.fullness(), 50.0 / 401.0);
        x.room(1, 50);
        x.room(2, 1);
        x.room(3, 1);
        x.room(4, 1);
        Checks.dueDouble("of 54", x.fullness(), 50.0 / 54.0);
        x.stile(1, 2);
        x.pass(1, true, 1);
        Checks.dueDouble("all halls count", x.fullness(), 50.0 / 54.0);
        x.pass(0, true, 1);
        Checks.dueDouble("51 of 54", x.fullness(), 51.0 / 54.0);
        HallStiles y = new HallStiles();
        y.stile(0, 2);
        y.room(2, 1);
        y.pass(0, true, 1);
        y.room(1, 1);
        y.room(3, 1);
        y.room(4, 1);
        y.room(5, 1);
        Checks.dueDouble("a fifth", y.fullness(), 0.2);
    }
}
