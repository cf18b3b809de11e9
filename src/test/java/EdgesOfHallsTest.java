/**
 * The edges that the document names under "Halls and stiles", "Passing" and "What is told", in its
 * order: each test stands for one sentence, which its comment tells.
 */
public final class EdgesOfHallsTest {
    public static void main(String[] args) {
        theHalls();
        theRoomOfAHall();
        theStreetHasPeopleEnough();
        theStreetHasRoomEnough();
        atMostTwelveStiles();
        theLeastFreeNumberAfterUndo();
        theLeastFreeNumberAfterRestore();
        severalStilesBetweenTheSameHalls();
        fourCountersAtTheTwoSides();
        countsAndSlipsAtFirst();
        eachNthIsMissedOneByOne();
        eachNthIsMissedInOnePass();
        slipZeroMissesNone();
        waysOfAStile();
        nobodyPassesUnderRepair();
        theFirstReasonThatApplies();
        notSoManyPeopleInTheHall();
        morePeopleThanRoom();
        toldOfAHallWithoutStiles();
        toldByEachOfTheTwoSides();
        toldCanBeBelowZero();
        gapsOfTheTwoPairsDoNotCancel();
        theLesserCountBecomesTheOther();
        auditOfEqualCounts();
        auditLeavesWhatSlipsHaveSeen();
        Checks.end();
    }

    /** There are 6 halls, 0 to 5. */
    private static void theHalls() {
        HallStiles x = new HallStiles();
        Checks.due("from 5 to 0", x.stile(5, 0), 0);
        Checks.due("from 6 to 0", x.stile(6, 0), HallStiles.NO_SUCH);
        Checks.due("from 0 to 6", x.stile(0, 6), HallStiles.NO_SUCH);
        Checks.due("from -1 to 0", x.stile(-1, 0), HallStiles.NO_SUCH);
        Checks.due("from 0 to -1", x.stile(0, -1), HallStiles.NO_SUCH);
        Checks.due("hall 5", x.hall(5, 5), 1);
        Checks.due("hall 6", x.hall(6, 5), HallStiles.NO_SUCH);
    }

    /** Each hall but the street has room (1 to 500; 100 at first) and people (none at first). */
    private static void theRoomOfAHall() {
        for (int hall = 1; hall <= 5; hall++) {
            HallStiles x = new HallStiles();
            Checks.due("people at first", x.hall(hall, 1), 0);
            Checks.due("room 0", x.room(hall, 0), HallStiles.BAD_VALUE);
            Checks.due("room 501", x.room(hall, 501), HallStiles.BAD_VALUE);
            Checks.due("room 1", x.room(hall, 1), 100);
            Checks.due("room 500", x.room(hall, 500), 1);
            Checks.due("room then", x.hall(hall, 0), 500);
        }
    }

    /** The street has always people enough. */
    private static void theStreetHasPeopleEnough() {
        for (int first = 0; first < 2; first++) {
            HallStiles x = new HallStiles();
            x.stile(first, 1 - first);
            boolean in = first == 0;
            x.room(1, 500);
            for (int passed = 0; passed < 5; passed++) {
                Checks.due("most", x.most(0, in), 99);
                Checks.due("no reason", x.reason(0, in, 99), 0);
                Checks.due("99 more", x.pass(0, in, 99), 0);
            }
            Checks.due("hall 1", x.hall(1, 1), 495);
        }
    }

    /** The street has always room enough. */
    private static void theStreetHasRoomEnough() {
        for (int first = 0; first < 2; first++) {
            HallStiles x = fullHall(first);
            boolean out = first == 1;
            for (int passed = 0; passed < 5; passed++) {
                Checks.due("most", x.most(0, out), 99);
                Checks.due("no reason", x.reason(0, out, 99), 0);
                Checks.due("99 more", x.pass(0, out, 99), 0);
            }
            Checks.due("hall 1", x.hall(1, 1), 5);
        }
    }

    /** A stile between the street and the hall 1, in which there are 500 people of 500. */
    private static HallStiles fullHall(int first) {
        HallStiles x = new HallStiles();
        x.stile(first, 1 - first);
        x.room(1, 500);
        for (int passed = 0; passed < 5; passed++) {
            x.pass(0, first == 0, 99);
        }
        x.pass(0, first == 0, 5);
        return x;
    }

    /** There are at most 12 stiles. */
    private static void atMostTwelveStiles() {
        HallStiles x = new HallStiles();
        for (int number = 0; number < 12; number++) {
            Checks.due("stile", x.stile(number % 6, (number + 1) % 6), number);
        }
        Checks.due("a thirteenth", x.stile(0, 1), HallStiles.TOO_MANY);
        Checks.due("stiles", x.count(1), 12);
        Checks.due("stile 11 is there", x.stileOf(11, 0), 5);
        Checks.due("stile 12 is not", x.stileOf(12, 0), HallStiles.NO_SUCH);
    }

    /** The number of a new one is the least that no stile has: also of one that is undone. */
    private static void theLeastFreeNumberAfterUndo() {
        HallStiles x = new HallStiles();
        for (int number = 0; number < 12; number++) {
            x.stile(0, 1);
        }
        x.undo();
        x.undo();
        Checks.due("10 is free", x.stile(4, 5), 10);
        Checks.due("11 is free", x.stile(5, 4), 11);
        Checks.due("no more", x.stile(5, 4), HallStiles.TOO_MANY);
        Checks.due("the new one", x.stileOf(10, 0), 4);
    }

    /** The number of a new one is the least that no stile has: also behind a restore. */
    private static void theLeastFreeNumberAfterRestore() {
        HallStiles x = new HallStiles();
        x.stile(0, 1);
        x.save();
        for (int number = 1; number < 12; number++) {
            x.stile(1, 2);
            x.slip(number, 3, 2);
            x.open(number, 3);
            x.repair(number);
        }
        x.restore();
        Checks.due("1 is free", x.stile(0, 5), 1);
        int[] facts = {0, 5, 0, 0, 0};
        for (int what = 0; what < facts.length; what++) {
            Checks.due("new: stileOf " + what, x.stileOf(1, what), facts[what]);
        }
        Checks.due("it has no slip", x.counter(1, 3, 1), 0);
        x.undo();
        x.undo();
        Checks.due("12 again", x.count(1), 12);
        Checks.due("no more", x.stile(0, 5), HallStiles.TOO_MANY);
    }

    /** There can be several between the same halls. */
    private static void severalStilesBetweenTheSameHalls() {
        HallStiles x = new HallStiles();
        for (int number = 0; number < 12; number++) {
            Checks.due("stile", x.stile(3 - number % 2, 2 + number % 2), number);
        }
        Checks.due("stiles of 2", x.hall(2, 5), 12);
        Checks.due("stiles of 3", x.hall(3, 5), 12);
        Checks.due("stiles of 1", x.hall(1, 5), 0);
    }

    /** At each side, a counter of people who go out (0) and one of those who come in (1). */
    private static void fourCountersAtTheTwoSides() {
        for (int counter = 0; counter < 4; counter++) {
            HallStiles x = new HallStiles();
            x.stile(0, 1);
            x.pass(0, true, 20);
            x.pass(0, false, 10);
            boolean countsFromFirst = counter == 0 || counter == 3;
            Checks.due("counter " + counter, x.counter(0, counter, 0), countsFromFirst ? 20 : 10);
        }
    }

    /** A count (0 at first) and a slip (0, or 2 to 9; 0 at first). */
    private static void countsAndSlipsAtFirst() {
        HallStiles x = new HallStiles();
        x.stile(0, 1);
        for (int counter = 0; counter < 4; counter++) {
            Checks.due("count at first", x.counter(0, counter, 0), 0);
            Checks.due("slip at first", x.counter(0, counter, 1), 0);
            Checks.due("slip -1", x.slip(0, counter, -1), HallStiles.BAD_VALUE);
            Checks.due("slip 1", x.slip(0, counter, 1), HallStiles.BAD_VALUE);
            Checks.due("slip 10", x.slip(0, counter, 10), HallStiles.BAD_VALUE);
            Checks.due("slip 2", x.slip(0, counter, 2), 0);
            Checks.due("slip 9", x.slip(0, counter, 9), 2);
            Checks.due("slip 0", x.slip(0, counter, 0), 9);
        }
    }

    /** It misses the n-th, the 2 n-th, and so on, since the slip was set: one by one. */
    private static void eachNthIsMissedOneByOne() {
        for (int slip = 2; slip <= 9; slip++) {
            HallStiles x = new HallStiles();
            x.stile(0, 1);
            x.pass(0, true, 1);
            x.slip(0, 3, slip);
            x.pass(0, true, slip - 1);
            Checks.due("none before the n-th", x.counter(0, 3, 2), 0);
            x.pass(0, true, 1);
            Checks.due("the n-th", x.counter(0, 3, 2), 1);
            x.pass(0, true, slip - 1);
            Checks.due("none before the 2 n-th", x.counter(0, 3, 2), 1);
            x.pass(0, true, 1);
            Checks.due("the 2 n-th", x.counter(0, 3, 2), 2);
            Checks.due("count", x.counter(0, 3, 0), 2 * slip - 1);
        }
    }

    /** It misses the n-th, the 2 n-th, and so on, since the slip was set: of 99 at once. */
    private static void eachNthIsMissedInOnePass() {
        int[] ofTheFirst99 = {49, 33, 24, 19, 16, 14, 12, 11};
        int[] of198 = {99, 66, 49, 39, 33, 28, 24, 22};
        for (int slip = 2; slip <= 9; slip++) {
            HallStiles x = new HallStiles();
            x.stile(0, 1);
            x.room(1, 500);
            x.slip(0, 0, slip);
            Checks.due("gap by slip " + slip, x.pass(0, true, 99), ofTheFirst99[slip - 2]);
            Checks.due("gap by slip " + slip, x.pass(0, true, 99), of198[slip - 2]);
            Checks.due("missed by slip " + slip, x.counter(0, 0, 2), of198[slip - 2]);
        }
    }

    /** With the slip 0 it misses none. */
    private static void slipZeroMissesNone() {
        HallStiles x = new HallStiles();
        x.stile(0, 1);
        x.slip(0, 0, 2);
        x.slip(0, 0, 0);
        Checks.due("gap", x.pass(0, true, 99), 0);
        Checks.due("count", x.counter(0, 0, 0), 99);
        Checks.due("missed", x.counter(0, 0, 2), 0);
    }

    /** Open both ways (0, at first), from first to second (1), from second to first (2), locked. */
    private static void waysOfAStile() {
        HallStiles x = new HallStiles();
        x.stile(1, 0);
        x.pass(0, false, 50);
        Checks.due("both ways at first", x.stileOf(0, 2), 0);
        int[] out = {0, 0, 2, 2};
        int[] in = {0, 2, 0, 2};
        for (int ways = 0; ways < 4; ways++) {
            x.open(0, ways);
            Checks.due("out, ways " + ways, x.reason(0, true, 50), out[ways]);
            Checks.due("in, ways " + ways, x.reason(0, false, 50), in[ways]);
        }
    }

    /** It can be under repair, for some hours yet; no one passes it then. */
    private static void nobodyPassesUnderRepair() {
        HallStiles x = new HallStiles();
        x.stile(0, 1);
        x.pass(0, true, 50);
        x.repair(0);
        for (int left = 6; left > 0; left--) {
            Checks.due("hours yet", x.stileOf(0, 3), left);
            Checks.due("in", x.pass(0, true, 1), -11);
            Checks.due("out", x.pass(0, false, 1), -11);
            Checks.due("most", x.most(0, false), 0);
            x.hours(1);
        }
        Checks.due("no hours yet", x.stileOf(0, 3), 0);
        Checks.due("in", x.pass(0, true, 1), 0);
        Checks.due("out", x.pass(0, false, 1), 0);
    }

    /** The first of these reasons that applies: every set of reasons, the first one told. */
    private static void theFirstReasonThatApplies() {
        for (int reasons = 0; reasons < 16; reasons++) {
            HallStiles x = new HallStiles();
            x.stile(0, 1);
            x.stile(1, 2);
            x.pass(0, true, (reasons & 4) == 0 ? 10 : 9);
            x.room(2, (reasons & 8) == 0 ? 10 : 9);
            if ((reasons & 2) != 0) {
                x.open(1, 2);
            }
            if ((reasons & 1) != 0) {
                x.repair(1);
            }
            int first = reasons == 0 ? 0 : Integer.numberOfTrailingZeros(reasons) + 1;
            Checks.due("reason of " + reasons, x.reason(1, true, 10), first);
            Checks.due("pass of " + reasons, x.pass(1, true, 10), first == 0 ? 0 : -10 - first);
        }
    }

    /** 3: there are not so many people in the hall. */
    private static void notSoManyPeopleInTheHall() {
        HallStiles x = new HallStiles();
        x.stile(0, 1);
        Checks.due("one of nobody", x.pass(0, false, 1), -13);
        x.pass(0, true, 40);
        Checks.due("one too many", x.pass(0, false, 41), -13);
        Checks.due("all of them", x.pass(0, false, 40), 0);
        Checks.due("nobody is left", x.hall(1, 1), 0);
        Checks.due("one of nobody", x.pass(0, false, 1), -13);
    }

    /** 4: the other hall would have more people than room. */
    private static void morePeopleThanRoom() {
        HallStiles x = new HallStiles();
        x.stile(0, 1);
        x.room(1, 40);
        Checks.due("one too many", x.pass(0, true, 41), -14);
        Checks.due("as many as there is room for", x.pass(0, true, 40), 0);
        Checks.due("one more", x.pass(0, true, 1), -14);
        x.room(1, 41);
        Checks.due("one more with room", x.pass(0, true, 1), 0);
        Checks.due("full", x.hall(1, 1), 41);
    }

    /** Told as the sum of the counts of all sides in this hall: of none it is 0. */
    private static void toldOfAHallWithoutStiles() {
        HallStiles x = new HallStiles();
        x.stile(0, 1);
        x.pass(0, true, 9);
        for (int hall = 2; hall <= 5; hall++) {
            Checks.due("own sides", x.hall(hall, 2), 0);
            Checks.due("far sides", x.hall(hall, 3), 0);
        }
        Checks.due("own sides", x.hall(1, 2), 9);
        Checks.due("far sides", x.hall(1, 3), 9);
    }

    /** Own sides and far sides, whichever side of the stile is in the hall. */
    private static void toldByEachOfTheTwoSides() {
        for (int first = 0; first < 2; first++) {
            HallStiles x = new HallStiles();
            x.stile(first, 1 - first);
            int ownSide = first == 0 ? 2 : 0;
            int farSide = 2 - ownSide;
            x.slip(0, ownSide, 5);
            x.slip(0, ownSide + 1, 4);
            x.slip(0, farSide, 3);
            x.slip(0, farSide + 1, 2);
            x.pass(0, first == 0, 60);
            x.pass(0, first == 1, 30);
            Checks.due("own side", x.hall(1, 2), 45 - 24);
            Checks.due("far side", x.hall(1, 3), 40 - 15);
            Checks.due("own sides of all", x.count(4), 45 - 24);
            Checks.due("far sides of all", x.count(5), 40 - 15);
        }
    }

    /** Coming in less going out: below 0 where those who came in were missed. */
    private static void toldCanBeBelowZero() {
        HallStiles x = new HallStiles();
        x.stile(0, 1);
        x.slip(0, 3, 2);
        x.slip(0, 0, 3);
        x.pass(0, true, 60);
        x.pass(0, false, 60);
        Checks.due("own sides", x.hall(1, 2), 30 - 60);
        Checks.due("far sides", x.hall(1, 3), 40 - 60);
        Checks.due("own sides of all", x.count(4), -30);
        Checks.due("far sides of all", x.count(5), -20);
        Checks.due("people", x.hall(1, 1), 0);
    }

    /** The gap is the sum of two differences, both without a sign. */
    private static void gapsOfTheTwoPairsDoNotCancel() {
        for (int signs = 0; signs < 4; signs++) {
            HallStiles x = new HallStiles();
            x.stile(0, 1);
            x.slip(0, (signs & 1) == 0 ? 0 : 3, 2);
            x.slip(0, (signs & 2) == 0 ? 1 : 2, 4);
            Checks.due("the one pair", x.pass(0, true, 40), 20);
            Checks.due("both pairs", x.pass(0, false, 40), 30);
            Checks.due("of all stiles", x.count(6), 30);
        }
    }

    /** Of each of these two pairs of counters the lesser count becomes as great as the other. */
    private static void theLesserCountBecomesTheOther() {
        for (int signs = 0; signs < 4; signs++) {
            HallStiles x = new HallStiles();
            x.stile(0, 1);
            x.slip(0, (signs & 1) == 0 ? 0 : 3, 2);
            x.slip(0, (signs & 2) == 0 ? 1 : 2, 4);
            x.pass(0, true, 40);
            x.pass(0, false, 20);
            Checks.due("gap before", x.audit(0), 25);
            int[] counts = {40, 20, 20, 40};
            for (int counter = 0; counter < 4; counter++) {
                Checks.due("count " + counter, x.counter(0, counter, 0), counts[counter]);
            }
            Checks.due("gap behind", x.audit(0), 0);
        }
    }

    /** Where both miss as many, no count is the lesser one, and none changes. */
    private static void auditOfEqualCounts() {
        HallStiles x = new HallStiles();
        x.stile(0, 1);
        x.slip(0, 0, 2);
        x.slip(0, 3, 2);
        x.pass(0, true, 40);
        Checks.due("no gap", x.audit(0), 0);
        Checks.due("first side", x.counter(0, 0, 0), 20);
        Checks.due("second side", x.counter(0, 3, 0), 20);
    }

    /** The slips stay, and what they have seen since they were set. */
    private static void auditLeavesWhatSlipsHaveSeen() {
        for (int seen = 0; seen < 9; seen++) {
            HallStiles x = new HallStiles();
            x.stile(0, 1);
            x.slip(0, 0, 9);
            if (seen > 0) {
                x.pass(0, true, seen);
            }
            x.audit(0);
            Checks.due("slip", x.counter(0, 0, 1), 9);
            if (seen < 8) {
                Checks.due("the eighth", x.pass(0, true, 8 - seen), 0);
            }
            Checks.due("the ninth is missed", x.pass(0, true, 1), 1);
        }
    }
}
