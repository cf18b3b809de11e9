/**
 * The edges that the promises name themselves, promise by promise: each test stands for one
 * sentence, which its comment tells. The edges of run, undo, save and restore stand in
 * EdgesOfTextTest and EdgesOfHistoryTest.
 */
public final class EdgesOfPromisesTest {
    private static final int MIN = Integer.MIN_VALUE;
    private static final int MAX = Integer.MAX_VALUE;

    public static void main(String[] args) {
        changes();
        peopleAndHours();
        textAndQueries();
        whatWouldBe();
        Checks.end();
    }

    private static void changes() {
        aNewObject();
        stileOfTheStreetAlone();
        openEachWay();
        roomForJustThePeople();
        roomOfTheStreet();
        slipBeginsAnew();
        slipOfEachCounter();
    }

    private static void peopleAndHours() {
        passOneAnd99();
        passAnswersTheGapThen();
        auditAnswersTheGapThatItHad();
        repairAnswersTheHour();
        repairAtTheHourWhenItIsOver();
        hoursOneAnd99();
        hoursAnswerRepairsThatAreOver();
        closeOneAnd99();
        closeEndsBehindAnHourOfNobody();
        closeEndsEarlyUnderRepair();
        closeBeginsWithAnHourOfNobody();
        setTellsThePreviousValue();
    }

    private static void textAndQueries() {
        append32And126();
        clearTextTellsTheLength();
        hallOfEachWhat();
        stileOfEachWhat();
        counterOfEachWhat();
        missedSoFar();
        reasonOfOneAnd99();
        worstByGap();
        worstOfSeveralWithTheSameGap();
        worstOfStilesWithoutGap();
        worstOfTwelve();
        countOfEachWhat();
        theFullestHallOfSeveral();
        theFullestHallWithoutRoom();
    }

    private static void whatWouldBe() {
        mostIsAtMost99();
        mostIsAtLeastZero();
        emptyInZeroHours();
        emptyIn300Hours();
        emptyInCountsIdleHours();
        emptyInNever();
        leftWithoutOneAnd99Hours();
        leftWithoutCountsIdleHours();
        leftWithoutALockedStile();
        leftWithoutOpensNoOther();
        fullnessFromZeroToOne();
    }

    private static HallStiles withStile(int first, int second) {
        HallStiles x = new HallStiles();
        x.stile(first, second);
        return x;
    }

    /** A stile between the street and the hall 1, in which there are some people of 500. */
    private static HallStiles withPeople(int people) {
        HallStiles x = withStile(0, 1);
        x.room(1, 500);
        for (int left = people; left > 0; left -= 99) {
            x.pass(0, true, Math.min(99, left));
        }
        return x;
    }

    // ---- promises 1 to 5

    /** 1: empty halls without stiles, at the hour 0, an empty text and history, no snapshot. */
    private static void aNewObject() {
        HallStiles x = new HallStiles();
        Checks.due("people", x.count(3), 0);
        Checks.due("stiles", x.count(1), 0);
        Checks.due("clock", x.count(0), 0);
        Checks.due("text", x.count(12), 0);
        Checks.due("history", x.count(11), 0);
        Checks.due("snapshot", x.restore(), HallStiles.NOT_POSSIBLE);
    }

    /** 2: BAD_VALUE if both are the same: the street too. */
    private static void stileOfTheStreetAlone() {
        HallStiles x = new HallStiles();
        for (int hall = 0; hall <= 5; hall++) {
            Checks.due("the same", x.stile(hall, hall), HallStiles.BAD_VALUE);
        }
        Checks.due("no hall twice", x.stile(6, 6), HallStiles.NO_SUCH);
        Checks.due("no hall twice", x.stile(MIN, MIN), HallStiles.NO_SUCH);
        Checks.due("no hall twice", x.stile(MAX, MAX), HallStiles.NO_SUCH);
        Checks.due("the next ones are not the same", x.stile(4, 5), 0);
    }

    /** 3: ways 0 to 3; returns the previous ways. */
    private static void openEachWay() {
        HallStiles x = withStile(0, 1);
        int[] bad = {MIN, -1, 4, MAX};
        for (int from = 0; from < 4; from++) {
            for (int to = 0; to < 4; to++) {
                x.open(0, from);
                Checks.due("open", x.open(0, to), from);
                for (int ways : bad) {
                    Checks.due("open(0, " + ways + ")", x.open(0, ways), HallStiles.BAD_VALUE);
                }
                Checks.due("ways", x.stileOf(0, 2), to);
            }
        }
    }

    /** 4: NOT_POSSIBLE if there are more people in it: as many are no more. */
    private static void roomForJustThePeople() {
        HallStiles x = withPeople(500);
        Checks.due("one fewer", x.room(1, 499), HallStiles.NOT_POSSIBLE);
        Checks.due("just as many", x.room(1, 500), 500);
        HallStiles y = withPeople(1);
        Checks.due("one for one", y.room(1, 1), 500);
        Checks.due("none for one", y.room(1, 0), HallStiles.BAD_VALUE);
        Checks.due("full", y.reason(0, true, 1), 4);
    }

    /** 4: NO_SUCH if there is no such hall, or if it is the street. */
    private static void roomOfTheStreet() {
        HallStiles x = new HallStiles();
        int[] bad = {MIN, -1, 0, 6, MAX};
        for (int hall : bad) {
            Checks.due("room(" + hall + ", 100)", x.room(hall, 100), HallStiles.NO_SUCH);
        }
        Checks.due("nothing is recorded", x.count(11), 0);
    }

    /** 5: the counter begins anew to see people, whichever slip it had, and the same one too. */
    private static void slipBeginsAnew() {
        for (int previous = 2; previous <= 9; previous++) {
            for (int slip = 2; slip <= 9; slip++) {
                HallStiles x = withStile(0, 1);
                x.slip(0, 3, previous);
                x.pass(0, true, previous - 1);
                Checks.due("the previous slip", x.slip(0, 3, slip), previous);
                Checks.due("none missed", x.pass(0, true, slip - 1), 0);
                Checks.due("the n-th is missed", x.pass(0, true, 1), 1);
            }
        }
    }

    /** 5: counter 0 to 3; each slip belongs to one counter of one stile. */
    private static void slipOfEachCounter() {
        for (int stile = 0; stile < 12; stile++) {
            for (int counter = 0; counter < 4; counter++) {
                HallStiles x = new HallStiles();
                for (int number = 0; number < 12; number++) {
                    x.stile(0, 1);
                }
                x.slip(stile, counter, 7);
                Checks.due("one slip", x.count(7), 1);
                Checks.due("its own", x.counter(stile, counter, 1), 7);
            }
        }
        HallStiles x = withStile(0, 1);
        int[] bad = {MIN, -1, 4, MAX};
        for (int counter : bad) {
            Checks.due("slip of " + counter, x.slip(0, counter, 7), HallStiles.BAD_VALUE);
        }
    }

    // ---- promises 6 to 11

    /** 6: people from 1 to 99. */
    private static void passOneAnd99() {
        HallStiles x = withStile(0, 1);
        int[] bad = {MIN, -1, 0, 100, MAX};
        for (int people : bad) {
            Checks.due("pass " + people, x.pass(0, true, people), HallStiles.BAD_VALUE);
            Checks.due("back " + people, x.pass(0, false, people), HallStiles.BAD_VALUE);
        }
        Checks.due("99", x.pass(0, true, 99), 0);
        Checks.due("1", x.pass(0, true, 1), 0);
        Checks.due("hall 1", x.hall(1, 1), 100);
    }

    /** 6: returns the gap of the stile then: of this stile alone, what was missed before too. */
    private static void passAnswersTheGapThen() {
        HallStiles x = withStile(0, 1);
        x.stile(0, 1);
        x.slip(0, 0, 2);
        Checks.due("the first", x.pass(0, true, 1), 0);
        Checks.due("the second", x.pass(0, true, 1), 1);
        Checks.due("another stile", x.pass(1, true, 9), 0);
        Checks.due("back, none is missed", x.pass(0, false, 9), 1);
        Checks.due("third and fourth", x.pass(0, true, 2), 2);
    }

    /** 7: returns the gap that it had: 0 when it is audited again. */
    private static void auditAnswersTheGapThatItHad() {
        HallStiles x = withStile(0, 1);
        x.slip(0, 3, 9);
        x.pass(0, true, 99);
        Checks.due("gap", x.audit(0), 11);
        Checks.due("again", x.audit(0), 0);
        int[] bad = {MIN, -1, 1, 11, 12, MAX};
        for (int stile : bad) {
            Checks.due("audit(" + stile + ")", x.audit(stile), HallStiles.NO_SUCH);
        }
    }

    /** 8: returns the hour at which the repair will be over. */
    private static void repairAnswersTheHour() {
        HallStiles x = withStile(0, 1);
        x.hours(99);
        int over = x.repair(0);
        Checks.due("the hour", over, 105);
        x.hours(5);
        Checks.due("an hour yet", x.stileOf(0, 3), 1);
        x.hours(1);
        Checks.due("over", x.stileOf(0, 3), 0);
        Checks.due("at that hour", x.count(0), over);
        int[] bad = {MIN, -1, 1, 12, MAX};
        for (int stile : bad) {
            Checks.due("repair(" + stile + ")", x.repair(stile), HallStiles.NO_SUCH);
        }
    }

    /** 8: NOT_POSSIBLE if it is under repair: no more at the hour at which it is over. */
    private static void repairAtTheHourWhenItIsOver() {
        HallStiles x = withStile(0, 1);
        x.repair(0);
        for (int hour = 0; hour < 6; hour++) {
            Checks.due("under repair", x.repair(0), HallStiles.NOT_POSSIBLE);
            x.hours(1);
        }
        Checks.due("anew", x.repair(0), 12);
    }

    /** 9: many from 1 to 99. */
    private static void hoursOneAnd99() {
        HallStiles x = new HallStiles();
        int[] bad = {MIN, -1, 0, 100, MAX};
        for (int many : bad) {
            Checks.due("hours(" + many + ")", x.hours(many), HallStiles.BAD_VALUE);
        }
        x.hours(1);
        Checks.due("clock", x.count(0), 1);
        x.hours(99);
        Checks.due("clock", x.count(0), 100);
    }

    /** 9: returns the number of repairs that are over in them: in the last hour too. */
    private static void hoursAnswerRepairsThatAreOver() {
        HallStiles x = withStile(0, 1);
        x.repair(0);
        Checks.due("one hour too few", x.hours(5), 0);
        Checks.due("the last hour", x.hours(1), 1);
        Checks.due("no more", x.hours(6), 0);
        x.repair(0);
        Checks.due("just as many hours", x.hours(6), 1);
        x.repair(0);
        Checks.due("one hour more", x.hours(7), 1);
        for (int stile = 1; stile < 12; stile++) {
            x.stile(0, 1);
        }
        for (int stile = 0; stile < 12; stile++) {
            x.repair(stile);
        }
        Checks.due("all twelve", x.hours(99), 12);
    }

    /** 10: many from 1 to 99. */
    private static void closeOneAnd99() {
        HallStiles x = withPeople(101);
        x.set(HallStiles.RATE, 1);
        int[] bad = {MIN, -1, 0, 100, MAX};
        for (int many : bad) {
            Checks.due("close(" + many + ")", x.close(many), HallStiles.BAD_VALUE);
        }
        Checks.due("1 hour", x.close(1), 100);
        Checks.due("99 hours", x.close(99), 1);
        Checks.due("clock", x.count(0), 100);
    }

    /** 10: it ends early behind an hour in which nobody passed; that hour passes. */
    private static void closeEndsBehindAnHourOfNobody() {
        HallStiles x = withPeople(60);
        Checks.due("all out", x.close(99), 0);
        Checks.due("two hours, and the one of nobody", x.count(0), 3);
        x = withPeople(60);
        Checks.due("no hour of nobody is needed", x.close(2), 0);
        Checks.due("clock", x.count(0), 2);
        x = withPeople(90);
        x.stile(1, 0);
        Checks.due("as many from first as from second are not nobody", x.close(2), 0);
        Checks.due("clock", x.count(0), 2);
    }

    /** 10: it ends early even if a repair would let people pass in a later hour. */
    private static void closeEndsEarlyUnderRepair() {
        HallStiles x = withPeople(60);
        x.set(HallStiles.HOURS, 2);
        x.repair(0);
        Checks.due("nobody passes", x.close(99), 60);
        Checks.due("clock", x.count(0), 1);
        Checks.due("the repair went on", x.stileOf(0, 3), 1);
        Checks.due("the last hour of the repair", x.close(99), 60);
        Checks.due("clock", x.count(0), 2);
        Checks.due("all out", x.close(99), 0);
        Checks.due("clock", x.count(0), 5);
    }

    /** 10: the first hour may be the one in which nobody passed; it is an hour all the same. */
    private static void closeBeginsWithAnHourOfNobody() {
        HallStiles x = new HallStiles();
        Checks.due("no stiles, nobody", x.close(99), 0);
        Checks.due("clock", x.count(0), 1);
        Checks.due("recorded", x.count(11), 1);
    }

    /** 11: RATE or HOURS; returns the previous value. */
    private static void setTellsThePreviousValue() {
        HallStiles x = new HallStiles();
        for (int value = 1; value <= 99; value++) {
            Checks.due("RATE", x.set(HallStiles.RATE, value), value == 1 ? 30 : value - 1);
            Checks.due("HOURS too great", x.set(HallStiles.HOURS, 48 + value),
                    HallStiles.BAD_VALUE);
        }
        for (int value = 1; value <= 48; value++) {
            Checks.due("HOURS", x.set(HallStiles.HOURS, value), value == 1 ? 6 : value - 1);
        }
        int[] bad = {MIN, -1, 2, MAX};
        for (int setting : bad) {
            Checks.due("set(" + setting + ", 1)", x.set(setting, 1), HallStiles.NO_SUCH);
        }
        int[] badValues = {MIN, -1, 0, 100, MAX};
        for (int value : badValues) {
            Checks.due("RATE " + value, x.set(HallStiles.RATE, value), HallStiles.BAD_VALUE);
            Checks.due("HOURS " + value, x.set(HallStiles.HOURS, value), HallStiles.BAD_VALUE);
        }
    }

    // ---- promises 12 to 24

    /** 12: character 32 to 126. */
    private static void append32And126() {
        HallStiles x = new HallStiles();
        int[] bad = {MIN, -1, 0, 31, 127, 255, 65536 + 'A', MAX};
        for (int character : bad) {
            Checks.due("append(" + character + ")", x.append(character), HallStiles.BAD_VALUE);
        }
        for (int character = 32; character <= 126; character++) {
            x.clearText();
            Checks.due("append(" + character + ")", x.append(character), 1);
        }
    }

    /** 13: returns the length that the text had: 0 to 60. */
    private static void clearTextTellsTheLength() {
        for (int length = 0; length <= 60; length++) {
            HallStiles x = new HallStiles();
            for (int i = 0; i < length; i++) {
                x.append('A');
            }
            Checks.due("clearText", x.clearText(), length);
            Checks.due("empty", x.clearText(), 0);
        }
    }

    /** 19: hall 1 to 5, what 0 to 5. */
    private static void hallOfEachWhat() {
        HallStiles x = withStile(0, 5);
        x.room(5, 50);
        x.slip(0, 3, 5);
        x.slip(0, 0, 2);
        x.pass(0, true, 10);
        int[] want = {50, 10, 8, 5, 1, 1};
        for (int what = 0; what < want.length; what++) {
            Checks.due("hall(5, " + what + ")", x.hall(5, what), want[what]);
        }
        int[] bad = {MIN, -1, 6, MAX};
        for (int what : bad) {
            Checks.due("hall(5, " + what + ")", x.hall(5, what), HallStiles.BAD_VALUE);
            Checks.due("hall(" + what + ", 0)", x.hall(what, 0), HallStiles.NO_SUCH);
        }
        for (int what = 0; what < want.length; what++) {
            Checks.due("the street", x.hall(0, what), HallStiles.NO_SUCH);
        }
    }

    /** 20: what 0 to 4; 0 hours if it is not under repair. */
    private static void stileOfEachWhat() {
        HallStiles x = withStile(3, 0);
        x.slip(0, 2, 2);
        x.pass(0, false, 4);
        x.open(0, 3);
        int[] want = {3, 0, 3, 0, 2};
        for (int what = 0; what < want.length; what++) {
            Checks.due("stileOf(0, " + what + ")", x.stileOf(0, what), want[what]);
        }
        x.repair(0);
        Checks.due("hours yet", x.stileOf(0, 3), 6);
        int[] badWhat = {MIN, -1, 5, MAX};
        for (int what : badWhat) {
            Checks.due("stileOf(0, " + what + ")", x.stileOf(0, what), HallStiles.BAD_VALUE);
        }
        int[] badStile = {MIN, -1, 1, 11, 12, MAX};
        for (int stile : badStile) {
            Checks.due("stileOf(" + stile + ", 0)", x.stileOf(stile, 0), HallStiles.NO_SUCH);
        }
    }

    /** 21: counter 0 to 3, what 0 to 2. */
    private static void counterOfEachWhat() {
        HallStiles x = withStile(0, 1);
        x.slip(0, 3, 5);
        x.pass(0, true, 14);
        int[] want = {12, 5, 2};
        for (int what = 0; what < want.length; what++) {
            Checks.due("counter(0, 3, " + what + ")", x.counter(0, 3, what), want[what]);
        }
        int[] badWhat = {MIN, -1, 3, MAX};
        for (int what : badWhat) {
            Checks.due("what " + what, x.counter(0, 3, what), HallStiles.BAD_VALUE);
        }
        int[] badCounter = {MIN, -1, 4, MAX};
        for (int counter : badCounter) {
            Checks.due("counter " + counter, x.counter(0, counter, 0), HallStiles.BAD_VALUE);
        }
        int[] badStile = {MIN, -1, 1, 12, MAX};
        for (int stile : badStile) {
            Checks.due("stile " + stile, x.counter(stile, 3, 0), HallStiles.NO_SUCH);
        }
    }

    /** 21: whom it has missed so far (an audit does not change this). */
    private static void missedSoFar() {
        HallStiles x = withStile(0, 1);
        Checks.due("none at first", x.counter(0, 3, 2), 0);
        x.slip(0, 3, 2);
        x.pass(0, true, 9);
        Checks.due("missed", x.counter(0, 3, 2), 4);
        x.audit(0);
        Checks.due("behind an audit", x.counter(0, 3, 2), 4);
        Checks.due("the count is another", x.counter(0, 3, 0), 9);
        x.pass(0, true, 1);
        Checks.due("the tenth", x.counter(0, 3, 2), 5);
    }

    /** 22: people 1 to 99; 0 if they can. */
    private static void reasonOfOneAnd99() {
        HallStiles x = withStile(0, 1);
        int[] bad = {MIN, -1, 0, 100, MAX};
        for (int people : bad) {
            Checks.due("reason of " + people, x.reason(0, true, people), HallStiles.BAD_VALUE);
        }
        Checks.due("1", x.reason(0, true, 1), 0);
        Checks.due("99", x.reason(0, true, 99), 0);
        int[] badStile = {MIN, -1, 1, 12, MAX};
        for (int stile : badStile) {
            Checks.due("reason(" + stile + ")", x.reason(stile, true, 1), HallStiles.NO_SUCH);
        }
    }

    /** 23: with the greatest gap first. */
    private static void worstByGap() {
        HallStiles x = new HallStiles();
        for (int stile = 0; stile < 5; stile++) {
            x.stile(0, 1 + stile);
            x.slip(stile, 0, 2);
            x.pass(stile, true, 2 * (stile + 1));
        }
        for (int rank = 0; rank < 5; rank++) {
            Checks.due("worst(" + rank + ")", x.worst(rank), 4 - rank);
        }
        Checks.due("not so many", x.worst(5), HallStiles.NONE);
        Checks.due("not so many", x.worst(MAX), HallStiles.NONE);
        Checks.due("below 0", x.worst(-1), HallStiles.BAD_VALUE);
        Checks.due("below 0", x.worst(MIN), HallStiles.BAD_VALUE);
    }

    /** 23: of several the one with the lower number. */
    private static void worstOfSeveralWithTheSameGap() {
        HallStiles x = new HallStiles();
        for (int stile = 0; stile < 5; stile++) {
            x.stile(0, 1 + stile);
            x.slip(stile, 3 * (stile % 2), 2);
            x.pass(stile, true, stile == 3 ? 8 : 6);
        }
        int[] order = {3, 0, 1, 2, 4};
        for (int rank = 0; rank < order.length; rank++) {
            Checks.due("worst(" + rank + ")", x.worst(rank), order[rank]);
        }
    }

    /** 23: only stiles with a gap above 0. */
    private static void worstOfStilesWithoutGap() {
        HallStiles x = withStile(0, 1);
        x.stile(0, 1);
        Checks.due("no gap", x.worst(0), HallStiles.NONE);
        x.slip(1, 0, 2);
        x.pass(1, true, 1);
        Checks.due("no gap yet", x.worst(0), HallStiles.NONE);
        x.pass(1, true, 1);
        Checks.due("a gap of 1", x.worst(0), 1);
        Checks.due("only that one", x.worst(1), HallStiles.NONE);
        x.audit(1);
        Checks.due("no gap any more", x.worst(0), HallStiles.NONE);
    }

    /** 23: the rank 11 is the last there can be. */
    private static void worstOfTwelve() {
        HallStiles x = new HallStiles();
        x.room(1, 500);
        for (int stile = 0; stile < 12; stile++) {
            x.stile(0, 1);
            x.slip(stile, 0, 2);
            x.pass(stile, true, 4);
        }
        for (int rank = 0; rank < 12; rank++) {
            Checks.due("worst(" + rank + ")", x.worst(rank), rank);
        }
        Checks.due("worst(12)", x.worst(12), HallStiles.NONE);
    }

    /** 24: what 0 to 12. */
    private static void countOfEachWhat() {
        HallStiles x = withStile(0, 1);
        x.stile(2, 0);
        x.slip(0, 3, 2);
        x.pass(0, true, 9);
        x.hours(3);
        x.repair(1);
        x.append('h');
        int[] want = {3, 2, 1, 9, 5, 9, 4, 1, 1, 30, 6, 5, 1};
        for (int what = 0; what < want.length; what++) {
            Checks.due("count(" + what + ")", x.count(what), want[what]);
        }
        int[] bad = {MIN, -1, 13, MAX};
        for (int what : bad) {
            Checks.due("count(" + what + ")", x.count(what), HallStiles.BAD_VALUE);
        }
    }

    /** 24: the fullest hall has the least room left; of several it is the lowest. */
    private static void theFullestHallOfSeveral() {
        for (int hall = 1; hall <= 5; hall++) {
            for (int other = 1; other <= 5; other++) {
                HallStiles x = new HallStiles();
                x.room(hall, 99);
                x.room(other, 99);
                Checks.due("of " + hall + " and " + other, x.count(8), Math.min(hall, other));
                x.room(hall, 98);
                Checks.due("hall " + hall, x.count(8), hall);
            }
        }
        Checks.due("of all", new HallStiles().count(8), 1);
    }

    /** 24: a hall with no room left at all is the fullest one. */
    private static void theFullestHallWithoutRoom() {
        HallStiles x = withStile(0, 4);
        x.room(1, 1);
        x.room(4, 99);
        x.pass(0, true, 99);
        Checks.due("full", x.count(8), 4);
        x.room(4, 100);
        Checks.due("as much room as hall 1", x.count(8), 1);
        for (int hall = 1; hall <= 5; hall++) {
            x.room(hall, 500);
        }
        Checks.due("the hall with people, and not the street", x.count(8), 4);
    }

    // ---- promises 25 to 28

    /** 25: 99 at most, though there are more people and more room. */
    private static void mostIsAtMost99() {
        for (int people = 97; people <= 101; people++) {
            HallStiles x = withPeople(people);
            Checks.due("of " + people, x.most(0, false), Math.min(99, people));
            HallStiles y = withStile(0, 1);
            y.room(1, people);
            Checks.due("into room for " + people, y.most(0, true), Math.min(99, people));
        }
    }

    /** 25: 0 at least: for each of the reasons. */
    private static void mostIsAtLeastZero() {
        HallStiles x = withStile(0, 1);
        Checks.due("nobody in the hall", x.most(0, false), 0);
        x.room(1, 9);
        x.pass(0, true, 9);
        Checks.due("no room", x.most(0, true), 0);
        x.open(0, 1);
        Checks.due("not this way", x.most(0, false), 0);
        x.open(0, 0);
        x.repair(0);
        Checks.due("under repair", x.most(0, false), 0);
        int[] bad = {MIN, -1, 1, 12, MAX};
        for (int stile : bad) {
            Checks.due("most(" + stile + ")", x.most(stile, true), HallStiles.NO_SUCH);
        }
    }

    /** 26: 0 hours if all halls are empty now, also without a way out. */
    private static void emptyInZeroHours() {
        HallStiles x = new HallStiles();
        Checks.due("no stiles", x.emptyIn(), 0);
        x.stile(0, 1);
        x.open(0, 3);
        Checks.due("locked", x.emptyIn(), 0);
        x.open(0, 0);
        x.pass(0, true, 1);
        Checks.due("one person", x.emptyIn(), 1);
    }

    /** 26: 0 to 300; NONE if they are not within 300. */
    private static void emptyIn300Hours() {
        for (int people = 298; people <= 302; people++) {
            HallStiles x = withPeople(people);
            x.set(HallStiles.RATE, 1);
            Checks.due("of " + people, x.emptyIn(), people <= 300 ? people : HallStiles.NONE);
        }
    }

    /** 26: hours in which nobody passes count, too: ahead of the passing, and between. */
    private static void emptyInCountsIdleHours() {
        HallStiles x = withPeople(30);
        x.set(HallStiles.HOURS, 48);
        x.repair(0);
        Checks.due("48 of the repair, and 1", x.emptyIn(), 49);
        HallStiles y = withPeople(60);
        y.stile(1, 2);
        y.pass(1, true, 30);
        y.repair(1);
        Checks.due("1, then 5 of the repair, then 2", y.emptyIn(), 8);
        for (int hours = 29; hours <= 31; hours++) {
            HallStiles z = withPeople(270);
            z.set(HallStiles.RATE, 1);
            z.set(HallStiles.HOURS, hours);
            z.repair(0);
            Checks.due(hours + " and 270", z.emptyIn(), hours <= 30 ? hours + 270
                    : HallStiles.NONE);
        }
    }

    /** 26: NONE where some go out, but not all. */
    private static void emptyInNever() {
        HallStiles x = withPeople(30);
        x.stile(1, 2);
        x.pass(1, true, 10);
        x.open(1, 1);
        Checks.due("10 cannot come back", x.emptyIn(), HallStiles.NONE);
        Checks.due("nothing is changed", x.count(3), 30);
        x.open(1, 2);
        Checks.due("10 can", x.emptyIn(), 2);
    }

    /** 27: many from 1 to 99. */
    private static void leftWithoutOneAnd99Hours() {
        HallStiles x = withPeople(100);
        x.stile(0, 1);
        x.set(HallStiles.RATE, 1);
        int[] bad = {MIN, -1, 0, 100, MAX};
        for (int many : bad) {
            Checks.due("hours " + many, x.leftWithout(1, many), HallStiles.BAD_VALUE);
        }
        Checks.due("1 hour", x.leftWithout(1, 1), 99);
        Checks.due("99 hours", x.leftWithout(1, 99), 1);
        int[] badStile = {MIN, -1, 2, 12, MAX};
        for (int stile : badStile) {
            Checks.due("stile " + stile, x.leftWithout(stile, 1), HallStiles.NO_SUCH);
        }
    }

    /** 27: hours in which nobody passes count, too. */
    private static void leftWithoutCountsIdleHours() {
        HallStiles x = withPeople(30);
        x.stile(0, 1);
        x.set(HallStiles.HOURS, 48);
        x.repair(1);
        Checks.due("48 of the repair", x.leftWithout(0, 48), 30);
        Checks.due("and one more", x.leftWithout(0, 49), 0);
    }

    /** 27: if a stile were locked: as it is if it is locked, or on no way out. */
    private static void leftWithoutALockedStile() {
        HallStiles x = withPeople(90);
        x.stile(0, 1);
        x.stile(2, 3);
        x.open(1, 3);
        Checks.due("locked", x.leftWithout(1, 1), 60);
        Checks.due("on no way out", x.leftWithout(2, 1), 60);
        Checks.due("the only way out", x.leftWithout(0, 99), 90);
        Checks.due("the stile is as it was", x.stileOf(0, 2), 0);
    }

    /** 27: the others stay as they are, and the locked one makes other ways out. */
    private static void leftWithoutOpensNoOther() {
        HallStiles x = withStile(0, 1);
        x.stile(1, 2);
        x.stile(0, 2);
        x.pass(0, true, 30);
        x.open(1, 2);
        Checks.due("stile 1 does not go there", x.leftWithout(0, 9), 30);
        x.open(1, 1);
        Checks.due("an hour to hall 2", x.leftWithout(0, 1), 0);
        x.open(1, 0);
        x.room(2, 10);
        Checks.due("by tens", x.leftWithout(0, 1), 20);
        Checks.due("by tens", x.leftWithout(0, 3), 0);
    }

    /** 28: the people in all halls divided by the rooms of all halls: 0 to 1. */
    private static void fullnessFromZeroToOne() {
        HallStiles x = new HallStiles();
        Checks.dueDouble("empty", x.fullness(), 0.0);
        for (int hall = 1; hall <= 5; hall++) {
            x.room(hall, 1);
            x.stile(0, hall);
            x.pass(hall - 1, true, 1);
        }
        Checks.dueDouble("full", x.fullness(), 1.0);
        HallStiles y = withPeople(1);
        for (int hall = 2; hall <= 5; hall++) {
            y.room(hall, 500);
        }
        Checks.dueDouble("one of 2500", y.fullness(), 1.0 / 2500.0);
        HallStiles z = withPeople(1);
        Checks.dueDouble("one of 900", z.fullness(), 1.0 / 900.0);
    }
}
