/** Promises 19 to 24: hall, stileOf, counter, reason, worst, count. */
public final class QueriesTest {
    private static final int[] OUTSIDE = {-1, Integer.MIN_VALUE, Integer.MAX_VALUE};

    public static void main(String[] args) {
        hallErrors();
        hallTells();
        hallTellsOfSides();
        hallDistances();
        stileOf();
        counter();
        counterTellsAllMissed();
        reason();
        worst();
        worstOfSmallGaps();
        countErrors();
        count();
        fullestHall();
        Checks.end();
    }

    private static void hallErrors() {
        HallStiles x = new HallStiles();
        for (int bad : OUTSIDE) {
            Checks.due("hall(" + bad + ", 0)", x.hall(bad, 0), HallStiles.NO_SUCH);
            Checks.due("hall(1, " + bad + ")", x.hall(1, bad), HallStiles.BAD_VALUE);
        }
        Checks.due("hall(0, 0)", x.hall(0, 0), HallStiles.NO_SUCH);
        Checks.due("hall(0, 9)", x.hall(0, 9), HallStiles.NO_SUCH);
        Checks.due("hall(6, 9)", x.hall(6, 9), HallStiles.NO_SUCH);
        Checks.due("hall(5, 6)", x.hall(5, 6), HallStiles.BAD_VALUE);
        Checks.due("hall(5, 5)", x.hall(5, 5), 0);
    }

    private static void hallTells() {
        HallStiles x = new HallStiles();
        x.stile(0, 1);
        x.stile(1, 2);
        x.stile(2, 1);
        x.stile(3, 2);
        x.open(2, 3);
        x.repair(3);
        x.room(1, 77);
        x.pass(0, true, 9);
        Checks.due("room", x.hall(1, 0), 77);
        Checks.due("people", x.hall(1, 1), 9);
        int[] stiles = {3, 3, 1, 0, 0};
        for (int hall = 1; hall <= 5; hall++) {
            Checks.due("stiles of " + hall, x.hall(hall, 5), stiles[hall - 1]);
        }
    }

    private static void hallTellsOfSides() {
        HallStiles x = new HallStiles();
        x.stile(0, 1);
        x.stile(2, 1);
        x.stile(3, 1);
        x.slip(0, 0, 5);
        x.slip(0, 3, 2);
        x.slip(1, 2, 3);
        x.slip(1, 1, 4);
        x.slip(2, 0, 2);
        x.pass(0, true, 40);
        x.pass(1, false, 12);
        x.pass(2, false, 10);
        x.pass(2, true, 4);
        // In: 40 (20 at the own side, 32 at the far one); out: 12 (8 own, 9 far); 10; in: 4 (2 far).
        Checks.due("hall 1, own", x.hall(1, 2), 20 - 8 - 10 + 4);
        Checks.due("hall 1, far", x.hall(1, 3), 32 - 9 - 10 + 2);
        Checks.due("hall 2, own", x.hall(2, 2), 9);
        Checks.due("hall 2, far", x.hall(2, 3), 8);
        Checks.due("hall 3, own", x.hall(3, 2), 10 - 2);
        Checks.due("hall 3, far", x.hall(3, 3), 10 - 4);
        Checks.due("all, own", x.count(4), 6 + 9 + 8);
        Checks.due("all, far", x.count(5), 15 + 8 + 6);
        Checks.due("people", x.hall(1, 1), 22);
        Checks.due("all gaps", x.count(6), 12 + 1 + 2);
    }

    private static void hallDistances() {
        HallStiles x = new HallStiles();
        x.stile(5, 4);
        x.stile(4, 3);
        x.stile(3, 2);
        x.stile(2, 1);
        x.stile(1, 0);
        for (int hall = 1; hall <= 5; hall++) {
            Checks.due("distance of " + hall, x.hall(hall, 4), hall);
        }
        x.open(2, 1);
        Checks.due("from the first", x.hall(3, 4), 3);
        x.open(2, 2);
        Checks.due("not from the second", x.hall(3, 4), HallStiles.NONE);
        Checks.due("nor farther in", x.hall(5, 4), HallStiles.NONE);
        Checks.due("but nearer", x.hall(2, 4), 2);
        x.stile(0, 5);
        Checks.due("another way", x.hall(5, 4), 1);
        Checks.due("another way", x.hall(3, 4), 3);
        x.open(5, 1);
        Checks.due("it goes in alone", x.hall(5, 4), HallStiles.NONE);
        x.open(5, 2);
        Checks.due("it goes out alone", x.hall(4, 4), 2);
        x.repair(5);
        Checks.due("under repair", x.hall(5, 4), HallStiles.NONE);
        x.hours(5);
        Checks.due("under repair yet", x.hall(5, 4), HallStiles.NONE);
        x.hours(1);
        Checks.due("over", x.hall(5, 4), 1);
        x.room(4, 1);
        Checks.due("room does not matter", x.hall(3, 4), 3);
    }

    private static void stileOf() {
        HallStiles x = new HallStiles();
        x.stile(0, 3);
        for (int bad : OUTSIDE) {
            Checks.due("stileOf(" + bad + ", 9)", x.stileOf(bad, 9), HallStiles.NO_SUCH);
            Checks.due("stileOf(0, " + bad + ")", x.stileOf(0, bad), HallStiles.BAD_VALUE);
        }
        Checks.due("stileOf(1, 0)", x.stileOf(1, 0), HallStiles.NO_SUCH);
        Checks.due("stileOf(0, 5)", x.stileOf(0, 5), HallStiles.BAD_VALUE);
        x.stile(5, 2);
        x.slip(0, 3, 2);
        x.pass(0, true, 9);
        x.open(1, 2);
        x.repair(1);
        x.hours(2);
        int[] first = {0, 3, 0, 0, 4};
        int[] second = {5, 2, 2, 4, 0};
        for (int what = 0; what < 5; what++) {
            Checks.due("stileOf(0, " + what + ")", x.stileOf(0, what), first[what]);
            Checks.due("stileOf(1, " + what + ")", x.stileOf(1, what), second[what]);
        }
    }

    private static void counter() {
        HallStiles x = new HallStiles();
        Checks.due("counter without stile", x.counter(0, 9, 9), HallStiles.NO_SUCH);
        x.stile(0, 3);
        for (int bad : OUTSIDE) {
            Checks.due("counter(" + bad + ", 0, 0)", x.counter(bad, 0, 0), HallStiles.NO_SUCH);
            Checks.due("counter(0, " + bad + ", 0)", x.counter(0, bad, 0), HallStiles.BAD_VALUE);
            Checks.due("counter(0, 0, " + bad + ")", x.counter(0, 0, bad), HallStiles.BAD_VALUE);
        }
        Checks.due("counter(0, 4, 0)", x.counter(0, 4, 0), HallStiles.BAD_VALUE);
        Checks.due("counter(0, 3, 3)", x.counter(0, 3, 3), HallStiles.BAD_VALUE);
        x.stile(3, 0);
        x.slip(1, 1, 4);
        x.pass(1, false, 10);
        int[][] want = {{0, 0, 0}, {8, 4, 2}, {10, 0, 0}, {0, 0, 0}};
        for (int counter = 0; counter < 4; counter++) {
            for (int what = 0; what < 3; what++) {
                Checks.due("counter(0, " + counter + ", " + what + ")",
                        x.counter(0, counter, what), 0);
                Checks.due("counter(1, " + counter + ", " + what + ")",
                        x.counter(1, counter, what), want[counter][what]);
            }
        }
    }

    private static void counterTellsAllMissed() {
        HallStiles x = new HallStiles();
        x.stile(0, 1);
        x.slip(0, 0, 2);
        x.pass(0, true, 10);
        x.slip(0, 0, 5);
        Checks.due("a new slip takes back no miss", x.counter(0, 0, 2), 5);
        x.pass(0, true, 10);
        Checks.due("7 missed in all", x.counter(0, 0, 2), 7);
        x.audit(0);
        Checks.due("an audit changes it not", x.counter(0, 0, 2), 7);
        Checks.due("but the count", x.counter(0, 0, 0), 20);
        x.repair(0);
        x.hours(6);
        Checks.due("nor does a repair", x.counter(0, 0, 2), 7);
    }

    private static void reason() {
        HallStiles x = new HallStiles();
        Checks.due("reason without stile", x.reason(0, true, 0), HallStiles.NO_SUCH);
        x.stile(0, 1);
        for (int bad : OUTSIDE) {
            Checks.due("reason(" + bad + ")", x.reason(bad, true, 1), HallStiles.NO_SUCH);
            Checks.due("reason of " + bad, x.reason(0, true, bad), HallStiles.BAD_VALUE);
        }
        Checks.due("reason of 0", x.reason(0, true, 0), HallStiles.BAD_VALUE);
        Checks.due("reason of 100", x.reason(0, true, 100), HallStiles.BAD_VALUE);
        x.pass(0, true, 40);
        Checks.due("60 more", x.reason(0, true, 60), 0);
        Checks.due("61 more", x.reason(0, true, 61), 4);
        Checks.due("40 out", x.reason(0, false, 40), 0);
        Checks.due("41 out", x.reason(0, false, 41), 3);
        x.open(0, 1);
        Checks.due("41 out, but not this way", x.reason(0, false, 41), 2);
        Checks.due("61 in", x.reason(0, true, 61), 4);
        x.repair(0);
        Checks.due("repair first", x.reason(0, false, 41), 1);
        Checks.due("repair first", x.reason(0, true, 61), 1);
        Checks.due("BAD_VALUE ahead of the reason", x.reason(0, true, 0), HallStiles.BAD_VALUE);
        Checks.due("nothing is changed", x.count(3), 40);
        Checks.due("states", x.count(11), 4);
    }

    private static void worst() {
        HallStiles x = new HallStiles();
        Checks.due("worst(-1)", x.worst(-1), HallStiles.BAD_VALUE);
        Checks.due("worst(min)", x.worst(Integer.MIN_VALUE), HallStiles.BAD_VALUE);
        Checks.due("worst(0) of none", x.worst(0), HallStiles.NONE);
        int[] gaps = {0, 3, 5, 3, 0, 7, 5};
        for (int i = 0; i < gaps.length; i++) {
            x.stile(0, i % 5 + 1);
            x.slip(i, 0, 2);
            if (gaps[i] > 0) {
                x.pass(i, true, 2 * gaps[i]);
            }
        }
        int[] order = {5, 2, 6, 1, 3};
        for (int rank = 0; rank < order.length; rank++) {
            Checks.due("worst(" + rank + ")", x.worst(rank), order[rank]);
        }
        Checks.due("worst(5)", x.worst(5), HallStiles.NONE);
        Checks.due("worst(max)", x.worst(Integer.MAX_VALUE), HallStiles.NONE);
        x.audit(5);
        Checks.due("worst(0)", x.worst(0), 2);
        Checks.due("worst(4)", x.worst(4), HallStiles.NONE);
    }

    private static void worstOfSmallGaps() {
        HallStiles x = new HallStiles();
        x.stile(0, 1);
        x.stile(0, 1);
        x.slip(0, 0, 2);
        x.slip(1, 3, 2);
        x.pass(0, true, 2);
        Checks.due("a gap of 1", x.worst(0), 0);
        x.pass(1, true, 2);
        Checks.due("the lower number first", x.worst(0), 0);
        Checks.due("then the other", x.worst(1), 1);
        x.pass(1, true, 2);
        Checks.due("the greater gap first", x.worst(0), 1);
        Checks.due("then the lower number", x.worst(1), 0);
        Checks.due("no more", x.worst(2), HallStiles.NONE);
    }

    private static void countErrors() {
        HallStiles x = new HallStiles();
        for (int bad : OUTSIDE) {
            Checks.due("count(" + bad + ")", x.count(bad), HallStiles.BAD_VALUE);
        }
        Checks.due("count(13)", x.count(13), HallStiles.BAD_VALUE);
    }

    private static void count() {
        HallStiles x = new HallStiles();
        x.stile(0, 1);
        x.stile(1, 2);
        x.stile(0, 3);
        x.slip(0, 3, 4);
        x.slip(1, 0, 3);
        x.slip(2, 2, 9);
        x.pass(0, true, 80);
        x.pass(1, true, 35);
        x.pass(2, true, 10);
        x.repair(1);
        x.repair(2);
        x.set(HallStiles.RATE, 12);
        x.set(HallStiles.HOURS, 13);
        x.hours(2);
        Checks.write(x, "h1,");
        // Told by own sides: 60 - 24, 35, 10; by far sides: 80 - 35, 24, 10.
        int[] want = {2, 3, 2, 90, 81, 79, 31, 3, 1, 12, 13, 5, 3};
        for (int what = 0; what < want.length; what++) {
            Checks.due("count(" + what + ")", x.count(what), want[what]);
        }
        x.hours(4);
        Checks.due("no repair", x.count(2), 0);
        Checks.due("the slips of those two stiles have gone", x.count(7), 1);
    }

    private static void fullestHall() {
        HallStiles x = new HallStiles();
        Checks.due("all alike", x.count(8), 1);
        x.room(4, 99);
        Checks.due("the least room", x.count(8), 4);
        x.room(3, 99);
        Checks.due("the lowest of two", x.count(8), 3);
        x.stile(0, 5);
        x.pass(0, true, 2);
        Checks.due("room less people", x.count(8), 5);
        x.room(5, 500);
        Checks.due("not the most people", x.count(8), 3);
        x.room(2, 1);
        Checks.due("hall 2", x.count(8), 2);
        x.room(1, 1);
        Checks.due("hall 1", x.count(8), 1);
    }
}
