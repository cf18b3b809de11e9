/** Promises 1 to 5: a new object, stile, open, room, slip. */
public final class HallsAndStilesTest {
    public static void main(String[] args) {
        newObject();
        newObjectsShareNothing();
        stile();
        stileNumbersAfterUndo();
        open();
        openChangesTheWays();
        room();
        slip();
        slipMissesEachNth();
        slipBeginsAnew();
        Checks.end();
    }

    private static void newObject() {
        HallStiles x = new HallStiles();
        int[] counts = {0, 0, 0, 0, 0, 0, 0, 0, 1, 30, 6, 0, 0};
        for (int what = 0; what < counts.length; what++) {
            Checks.due("new: count(" + what + ")", x.count(what), counts[what]);
        }
        for (int hall = 1; hall <= 5; hall++) {
            int[] facts = {100, 0, 0, 0, HallStiles.NONE, 0};
            for (int what = 0; what < facts.length; what++) {
                Checks.due("new: hall(" + hall + ", " + what + ")", x.hall(hall, what),
                        facts[what]);
            }
        }
        Checks.due("new: stileOf(0, 0)", x.stileOf(0, 0), HallStiles.NO_SUCH);
        Checks.due("new: undo", x.undo(), HallStiles.NONE);
        Checks.due("new: restore", x.restore(), HallStiles.NOT_POSSIBLE);
        Checks.due("new: clearText", x.clearText(), 0);
        Checks.dueDouble("new: fullness", x.fullness(), 0.0);
    }

    private static void newObjectsShareNothing() {
        HallStiles x = new HallStiles();
        x.stile(0, 1);
        x.pass(0, true, 5);
        x.append('h');
        x.save();
        HallStiles y = new HallStiles();
        Checks.due("other: count(1)", y.count(1), 0);
        Checks.due("other: count(3)", y.count(3), 0);
        Checks.due("other: count(12)", y.count(12), 0);
        Checks.due("other: restore", y.restore(), HallStiles.NOT_POSSIBLE);
        Checks.due("first: count(3)", x.count(3), 5);
    }

    private static void stile() {
        HallStiles x = new HallStiles();
        int[] bad = {-1, 6, Integer.MIN_VALUE, Integer.MAX_VALUE};
        for (int hall : bad) {
            Checks.due("stile(0, " + hall + ")", x.stile(0, hall), HallStiles.NO_SUCH);
            Checks.due("stile(" + hall + ", 0)", x.stile(hall, 0), HallStiles.NO_SUCH);
            Checks.due("stile(same bad)", x.stile(hall, hall), HallStiles.NO_SUCH);
        }
        for (int hall = 0; hall < 6; hall++) {
            Checks.due("stile(same)", x.stile(hall, hall), HallStiles.BAD_VALUE);
        }
        Checks.due("no stile yet", x.count(1), 0);
        Checks.due("nothing recorded yet", x.count(11), 0);
        for (int i = 0; i < 12; i++) {
            Checks.due("stile " + i, x.stile(i % 6, 5 - i % 6), i);
            Checks.due("first of " + i, x.stileOf(i, 0), i % 6);
            Checks.due("second of " + i, x.stileOf(i, 1), 5 - i % 6);
            Checks.due("ways of " + i, x.stileOf(i, 2), 0);
            Checks.due("repair of " + i, x.stileOf(i, 3), 0);
            Checks.due("stiles", x.count(1), i + 1);
        }
        Checks.due("a thirteenth", x.stile(0, 1), HallStiles.TOO_MANY);
        Checks.due("a thirteenth, no hall", x.stile(0, 6), HallStiles.NO_SUCH);
        Checks.due("a thirteenth, same hall", x.stile(3, 3), HallStiles.BAD_VALUE);
        Checks.due("still 12", x.count(1), 12);
        Checks.due("no stile 12", x.stileOf(12, 0), HallStiles.NO_SUCH);
    }

    private static void stileNumbersAfterUndo() {
        HallStiles x = new HallStiles();
        x.stile(0, 1);
        x.stile(1, 2);
        x.slip(1, 2, 4);
        x.open(1, 3);
        x.repair(1);
        x.undo();
        x.undo();
        x.undo();
        x.undo();
        Checks.due("one is left", x.count(1), 1);
        Checks.due("the number is free again", x.stile(3, 0), 1);
        Checks.due("first", x.stileOf(1, 0), 3);
        Checks.due("second", x.stileOf(1, 1), 0);
        Checks.due("ways", x.stileOf(1, 2), 0);
        Checks.due("repair", x.stileOf(1, 3), 0);
        Checks.due("slip", x.counter(1, 2, 1), 0);
    }

    private static void open() {
        HallStiles x = new HallStiles();
        Checks.due("open without stile", x.open(0, 9), HallStiles.NO_SUCH);
        x.stile(0, 1);
        Checks.due("open(-1, 0)", x.open(-1, 0), HallStiles.NO_SUCH);
        Checks.due("open(1, 0)", x.open(1, 0), HallStiles.NO_SUCH);
        Checks.due("open(0, -1)", x.open(0, -1), HallStiles.BAD_VALUE);
        Checks.due("open(0, 4)", x.open(0, 4), HallStiles.BAD_VALUE);
        Checks.due("open(0, 3)", x.open(0, 3), 0);
        Checks.due("open(0, 1)", x.open(0, 1), 3);
        Checks.due("open(0, 2)", x.open(0, 2), 1);
        Checks.due("open(0, 2) again", x.open(0, 2), 2);
        Checks.due("open(0, 0)", x.open(0, 0), 2);
        Checks.due("ways", x.stileOf(0, 2), 0);
        Checks.due("states", x.count(11), 5);
    }

    private static void openChangesTheWays() {
        HallStiles x = new HallStiles();
        x.stile(1, 2);
        x.stile(0, 1);
        x.stile(0, 2);
        x.pass(1, true, 9);
        x.pass(2, true, 9);
        int[] whyFromFirst = {0, 0, 2, 2};
        int[] whyFromSecond = {0, 2, 0, 2};
        for (int ways = 0; ways < 4; ways++) {
            x.open(0, ways);
            Checks.due("from first, ways " + ways, x.reason(0, true, 1), whyFromFirst[ways]);
            Checks.due("from second, ways " + ways, x.reason(0, false, 1), whyFromSecond[ways]);
        }
    }

    private static void room() {
        HallStiles x = new HallStiles();
        x.stile(0, 4);
        x.pass(0, true, 7);
        int[] bad = {-1, 0, 6, Integer.MIN_VALUE, Integer.MAX_VALUE};
        for (int hall : bad) {
            Checks.due("room(" + hall + ", 0)", x.room(hall, 0), HallStiles.NO_SUCH);
        }
        Checks.due("room(4, 0)", x.room(4, 0), HallStiles.BAD_VALUE);
        Checks.due("room(4, -3)", x.room(4, -3), HallStiles.BAD_VALUE);
        Checks.due("room(4, 501)", x.room(4, 501), HallStiles.BAD_VALUE);
        Checks.due("room(4, 6)", x.room(4, 6), HallStiles.NOT_POSSIBLE);
        Checks.due("room as it was", x.hall(4, 0), 100);
        Checks.due("states", x.count(11), 2);
        Checks.due("room(4, 7)", x.room(4, 7), 100);
        Checks.due("room(4, 500)", x.room(4, 500), 7);
        Checks.due("room(4, 500) again", x.room(4, 500), 500);
        Checks.due("room(1, 1)", x.room(1, 1), 100);
        Checks.due("room(5, 2)", x.room(5, 2), 100);
        Checks.due("room of 4", x.hall(4, 0), 500);
        Checks.due("room of 1", x.hall(1, 0), 1);
        Checks.due("room of 2", x.hall(2, 0), 100);
        Checks.due("room of 5", x.hall(5, 0), 2);
    }

    private static void slip() {
        HallStiles x = new HallStiles();
        Checks.due("slip without stile", x.slip(0, 9, 99), HallStiles.NO_SUCH);
        x.stile(0, 1);
        Checks.due("slip(1, 0, 2)", x.slip(1, 0, 2), HallStiles.NO_SUCH);
        Checks.due("slip(-1, 0, 2)", x.slip(-1, 0, 2), HallStiles.NO_SUCH);
        Checks.due("slip(0, -1, 2)", x.slip(0, -1, 2), HallStiles.BAD_VALUE);
        Checks.due("slip(0, 4, 2)", x.slip(0, 4, 2), HallStiles.BAD_VALUE);
        int[] bad = {-1, 1, 10, Integer.MIN_VALUE, Integer.MAX_VALUE};
        for (int slip : bad) {
            Checks.due("slip(0, 0, " + slip + ")", x.slip(0, 0, slip), HallStiles.BAD_VALUE);
        }
        Checks.due("states", x.count(11), 1);
        for (int counter = 0; counter < 4; counter++) {
            Checks.due("slip 2", x.slip(0, counter, 2), 0);
            Checks.due("slip 9", x.slip(0, counter, 9), 2);
            Checks.due("slip 0", x.slip(0, counter, 0), 9);
            Checks.due("slip " + (counter + 2), x.slip(0, counter, counter + 2), 0);
        }
        for (int counter = 0; counter < 4; counter++) {
            Checks.due("slip of " + counter, x.counter(0, counter, 1), counter + 2);
        }
    }

    private static void slipMissesEachNth() {
        for (int slip = 2; slip <= 9; slip++) {
            HallStiles x = new HallStiles();
            x.stile(0, 1);
            x.slip(0, 3, slip);
            for (int people = 1; people <= 40; people++) {
                x.pass(0, true, 1);
                Checks.due("missed of " + people + " by slip " + slip, x.counter(0, 3, 2),
                        people / slip);
                Checks.due("counted of " + people + " by slip " + slip, x.counter(0, 3, 0),
                        people - people / slip);
            }
            Checks.due("the other side misses none", x.counter(0, 0, 0), 40);
        }
    }

    private static void slipBeginsAnew() {
        HallStiles x = new HallStiles();
        x.stile(0, 1);
        x.slip(0, 0, 3);
        x.pass(0, true, 5);
        Checks.due("missed the third", x.counter(0, 0, 2), 1);
        Checks.due("the same slip again", x.slip(0, 0, 3), 3);
        x.pass(0, true, 2);
        Checks.due("two seen anew, none missed", x.counter(0, 0, 2), 1);
        x.pass(0, true, 1);
        Checks.due("the third anew is missed", x.counter(0, 0, 2), 2);
        x.pass(0, true, 2);
        x.slip(0, 0, 0);
        x.pass(0, true, 1);
        x.slip(0, 0, 2);
        x.pass(0, true, 1);
        Checks.due("none missed at slip 0, nor the first anew", x.counter(0, 0, 2), 2);
        x.pass(0, true, 1);
        Checks.due("the second anew is missed", x.counter(0, 0, 2), 3);
        Checks.due("count", x.counter(0, 0, 0), 10);
    }
}
