/**
 * The edges that the document names under "Actions and history" and "Errors", and those of undo,
 * save and restore: each test stands for one sentence, which its comment tells.
 */
public final class EdgesOfHistoryTest {
    public static void main(String[] args) {
        eachActionIsRecorded();
        anActionThatChangesNothingIsRecorded();
        whatIsNoActionRecordsNothing();
        theSixthStateDropsTheOldest();
        theHistoryGoesRoundAndRound();
        undoOfAnEmptyHistory();
        undoIsNoAction();
        textAndSnapshotStayInUndo();
        textAndHistoryStayInRestore();
        theWholeStateComesBack();
        noSnapshot();
        saveReplacesThePreviousSnapshot();
        theSnapshotRemains();
        aRefusedCallChangesNothing();
        aRefusedCallOfAFullHistory();
        aQuestionChangesNothing();
        theFirstErrorThatApplies();
        noneIsNoErrorCode();
        usedFor512Calls();
        Checks.end();
    }

    /** Each action that returns no error code records the state before it. */
    private static void eachActionIsRecorded() {
        HallStiles x = withAStileAndNoHistory();
        x.save();
        String before = Look.atState(x);
        Checks.write(x, "h1");
        x.stile(0, 1);
        dueRecorded("stile", x, before);
        x.open(0, 1);
        dueRecorded("open", x, before);
        x.room(1, 50);
        dueRecorded("room", x, before);
        x.slip(0, 0, 2);
        dueRecorded("slip", x, before);
        x.pass(0, true, 1);
        dueRecorded("pass", x, before);
        x.audit(0);
        dueRecorded("audit", x, before);
        x.repair(0);
        dueRecorded("repair", x, before);
        x.hours(1);
        dueRecorded("hours", x, before);
        x.close(1);
        dueRecorded("close", x, before);
        x.set(HallStiles.RATE, 1);
        dueRecorded("set RATE", x, before);
        x.set(HallStiles.HOURS, 1);
        dueRecorded("set HOURS", x, before);
        x.run();
        dueRecorded("run", x, before);
        x.restore();
        dueRecorded("restore", x, before);
    }

    private static void dueRecorded(String action, HallStiles x, String before) {
        Checks.due(action + " is recorded", x.count(11), 1);
        Checks.due("undo of " + action, x.undo(), 0);
        Checks.isTrue(action + " and undo change nothing", Look.atState(x).equals(before));
    }

    /** Records the state, even if the action changes nothing. */
    private static void anActionThatChangesNothingIsRecorded() {
        HallStiles x = new HallStiles();
        String empty = Look.atState(x);
        x.room(1, 100);
        dueRecorded("the same room", x, empty);
        x.set(HallStiles.RATE, 30);
        dueRecorded("the same RATE", x, empty);
        x.set(HallStiles.HOURS, 6);
        dueRecorded("the same HOURS", x, empty);
        x.save();
        x.restore();
        dueRecorded("restore of the same", x, empty);
        HallStiles y = withAStileAndNoHistory();
        String one = Look.atState(y);
        y.open(0, 0);
        dueRecorded("the same ways", y, one);
        y.slip(0, 0, 0);
        dueRecorded("the same slip", y, one);
        y.audit(0);
        dueRecorded("an audit without a gap", y, one);
        y.close(1);
        dueRecorded("close of empty halls", y, one);
        Checks.write(y, "Ba");
        y.run();
        dueRecorded("run without an order carried out", y, one);
    }

    private static HallStiles withAStileAndNoHistory() {
        HallStiles x = new HallStiles();
        x.stile(0, 1);
        // The fifth of these drops the state without the stile.
        for (int action = 0; action < 5; action++) {
            x.open(0, 0);
        }
        for (int action = 0; action < 5; action++) {
            x.undo();
        }
        return x;
    }

    /** The actions are stile, open .. restore: no other call records a state. */
    private static void whatIsNoActionRecordsNothing() {
        HallStiles x = new HallStiles();
        x.append('h');
        x.append('1');
        x.fault();
        x.clearText();
        x.save();
        x.undo();
        x.emptyIn();
        x.fullness();
        Checks.due("states", x.count(11), 0);
        x.stile(0, 1);
        x.leftWithout(0, 9);
        x.most(0, true);
        x.reason(0, true, 1);
        x.worst(0);
        Checks.due("states", x.count(11), 1);
    }

    /** The history holds at most 5 states; when a sixth is recorded, the oldest is dropped. */
    private static void theSixthStateDropsTheOldest() {
        HallStiles x = new HallStiles();
        for (int hour = 1; hour <= 5; hour++) {
            x.hours(1);
            Checks.due("states", x.count(11), hour);
        }
        x.hours(1);
        Checks.due("still 5", x.count(11), 5);
        for (int left = 4; left >= 0; left--) {
            Checks.due("undo", x.undo(), left);
        }
        Checks.due("the state of hour 0 is dropped", x.count(0), 1);
        Checks.due("no more", x.undo(), HallStiles.NONE);
    }

    /** However often the history was filled and emptied, undo restores the latest state. */
    private static void theHistoryGoesRoundAndRound() {
        for (int back = 1; back <= 5; back++) {
            HallStiles x = new HallStiles();
            int clock = 0;
            for (int round = 0; round < 15; round++) {
                for (int hour = 0; hour < 6; hour++) {
                    x.hours(1);
                    clock++;
                }
                for (int k = 1; k <= back; k++) {
                    Checks.due("undo", x.undo(), 5 - k);
                    clock--;
                    Checks.due("clock", x.count(0), clock);
                }
            }
        }
    }

    /** NONE if the history is empty; nothing is restored then. */
    private static void undoOfAnEmptyHistory() {
        HallStiles x = new HallStiles();
        Checks.due("at first", x.undo(), HallStiles.NONE);
        x.hours(7);
        Checks.due("one", x.undo(), 0);
        Checks.due("none", x.undo(), HallStiles.NONE);
        Checks.due("none again", x.undo(), HallStiles.NONE);
        Checks.due("clock", x.count(0), 0);
        x.hours(8);
        Checks.due("one again", x.undo(), 0);
    }

    /** Undo removes the state from the history, and records none that could be undone to. */
    private static void undoIsNoAction() {
        HallStiles x = new HallStiles();
        x.hours(1);
        x.hours(2);
        Checks.due("undo", x.undo(), 1);
        Checks.due("undo again goes further back", x.undo(), 0);
        Checks.due("clock", x.count(0), 0);
    }

    /** The text and the snapshot do not change. */
    private static void textAndSnapshotStayInUndo() {
        HallStiles x = new HallStiles();
        Checks.write(x, "h4");
        x.run();
        x.save();
        Checks.write(x, ",");
        x.run();
        x.hours(1);
        x.undo();
        x.undo();
        Checks.due("length", x.count(12), 3);
        Checks.due("fault", x.fault(), 3);
        Checks.due("restore", x.restore(), 0);
        Checks.due("clock of the snapshot", x.count(0), 4);
    }

    /** The text and the history are not part of the state, so restore leaves them as they are. */
    private static void textAndHistoryStayInRestore() {
        HallStiles x = new HallStiles();
        x.hours(1);
        Checks.write(x, "h5");
        x.save();
        x.clearText();
        Checks.write(x, "h66");
        x.hours(2);
        x.restore();
        Checks.due("length", x.count(12), 3);
        Checks.due("three actions", x.count(11), 3);
        Checks.due("clock", x.count(0), 1);
        x.undo();
        Checks.due("before restore", x.count(0), 3);
        x.undo();
        Checks.due("before the second hours", x.count(0), 1);
        Checks.due("run of the text of now", x.run(), 1);
        Checks.due("clock", x.count(0), 67);
    }

    /** The state consists of the halls, the stiles with their counters, the settings, the clock. */
    private static void theWholeStateComesBack() {
        HallStiles x = RefusedCalls.busy();
        HallStiles twin = RefusedCalls.busy();
        x.save();
        x.pass(0, true, 5);
        x.slip(0, 0, 0);
        x.set(HallStiles.RATE, 77);
        x.hours(40);
        x.restore();
        Checks.isTrue("restore brings all back", Look.ahead(x).equals(Look.ahead(twin)));
        HallStiles y = RefusedCalls.busy();
        twin = RefusedCalls.busy();
        y.pass(0, true, 5);
        y.slip(0, 0, 0);
        y.set(HallStiles.RATE, 77);
        y.hours(40);
        for (int action = 0; action < 4; action++) {
            y.undo();
        }
        Checks.isTrue("undo brings all back", Look.ahead(y).equals(Look.ahead(twin)));
    }

    /** NOT_POSSIBLE if there is no snapshot: also where a history is. */
    private static void noSnapshot() {
        HallStiles x = new HallStiles();
        Checks.due("at first", x.restore(), HallStiles.NOT_POSSIBLE);
        x.hours(1);
        Checks.due("with a history", x.restore(), HallStiles.NOT_POSSIBLE);
        Checks.due("nothing recorded", x.count(11), 1);
        x.save();
        Checks.due("with a snapshot", x.restore(), 0);
    }

    /** A snapshot replaces the previous one. */
    private static void saveReplacesThePreviousSnapshot() {
        HallStiles x = new HallStiles();
        x.save();
        x.hours(1);
        x.save();
        x.hours(1);
        x.restore();
        Checks.due("the second one", x.count(0), 1);
    }

    /** The snapshot remains: behind a restore, an undo of it, and what comes then. */
    private static void theSnapshotRemains() {
        HallStiles x = new HallStiles();
        x.stile(0, 1);
        x.pass(0, true, 9);
        x.save();
        for (int round = 0; round < 3; round++) {
            x.pass(0, true, 20);
            Checks.due("restore", x.restore(), 9);
            x.pass(0, false, 9);
            x.room(1, 1);
            Checks.due("restore", x.restore(), 9);
            Checks.due("room", x.hall(1, 0), 100);
            x.undo();
            Checks.due("undo of restore", x.count(3), 0);
        }
    }

    /** A method that returns an error code changes nothing. */
    private static void aRefusedCallChangesNothing() {
        for (RefusedCalls.Refused refused : RefusedCalls.ALL) {
            HallStiles x = RefusedCalls.busy();
            Checks.due(refused.name(), refused.call().applyAsInt(x), refused.due());
            Checks.isTrue(refused.name() + " changed what is behind",
                    Look.behind(x).equals(Look.behind(RefusedCalls.busy())));
            x = RefusedCalls.busy();
            refused.call().applyAsInt(x);
            Checks.isTrue(refused.name() + " changed what is ahead",
                    Look.ahead(x).equals(Look.ahead(RefusedCalls.busy())));
        }
    }

    /** Nor does it drop a state of a full history. */
    private static void aRefusedCallOfAFullHistory() {
        HallStiles x = RefusedCalls.busy();
        Checks.due("full", x.count(11), 5);
        for (RefusedCalls.Refused refused : RefusedCalls.ALL) {
            refused.call().applyAsInt(x);
        }
        Checks.isTrue("all of them together",
                Look.behind(x).equals(Look.behind(RefusedCalls.busy())));
    }

    /** Queries change nothing, nor does what tells what would be. */
    private static void aQuestionChangesNothing() {
        HallStiles x = RefusedCalls.busy();
        HallStiles y = RefusedCalls.busy();
        RefusedCalls.askAll(x);
        RefusedCalls.askAll(y);
        Checks.isTrue("what is behind", Look.behind(x).equals(Look.behind(RefusedCalls.busy())));
        Checks.isTrue("what is ahead", Look.ahead(y).equals(Look.ahead(RefusedCalls.busy())));
    }

    /** The codes are listed in the order in which they are checked; the first one is returned. */
    private static void theFirstErrorThatApplies() {
        HallStiles x = RefusedCalls.busy();
        int noSuch = HallStiles.NO_SUCH;
        int bad = HallStiles.BAD_VALUE;
        Checks.due("stile: no hall, the same, 12", x.stile(6, 6), noSuch);
        Checks.due("stile: the same, 12", x.stile(3, 3), bad);
        Checks.due("stile: 12", x.stile(3, 4), HallStiles.TOO_MANY);
        Checks.due("open: both", x.open(12, 4), noSuch);
        Checks.due("room: no hall, bad room", x.room(0, 0), noSuch);
        Checks.due("room: bad room, more people", x.room(1, 0), bad);
        Checks.due("room: more people", x.room(1, 1), HallStiles.NOT_POSSIBLE);
        Checks.due("slip: all", x.slip(12, 4, 1), noSuch);
        Checks.due("pass: no stile, bad number", x.pass(12, true, 0), noSuch);
        Checks.due("pass: bad number, a reason", x.pass(2, true, 100), bad);
        Checks.due("pass: a reason", x.pass(2, true, 99), -12);
        Checks.due("set: both", x.set(2, 0), noSuch);
        Checks.write(x, "hhhhhhhhhhhhhhhhhhhhhhhhhhhhhhhhhhhhhhhhhhhhhhhhhhhhhhhhhhhhhhhh");
        Checks.due("append: bad, full", x.append(127), bad);
        Checks.due("append: full", x.append(126), HallStiles.TOO_MANY);
        Checks.due("hall: both", x.hall(0, 6), noSuch);
        Checks.due("stileOf: both", x.stileOf(12, 5), noSuch);
        Checks.due("counter: all", x.counter(12, 4, 3), noSuch);
        Checks.due("reason: both", x.reason(12, true, 0), noSuch);
        Checks.due("reason: bad number, a reason", x.reason(2, true, 0), bad);
        Checks.due("leftWithout: both", x.leftWithout(12, 0), noSuch);
    }

    /** NONE is not an error code, and is no other answer either. */
    private static void noneIsNoErrorCode() {
        HallStiles x = new HallStiles();
        x.stile(1, 2);
        x.pass(0, true, 1);
        Checks.due("no distance", x.hall(1, 4), HallStiles.NONE);
        Checks.due("no worst stile", x.worst(0), HallStiles.NONE);
        Checks.due("halls that are empty now", x.emptyIn(), 0);
        Checks.write(x, "h1");
        Checks.due("no fault", x.fault(), HallStiles.NONE);
        Checks.due("run", x.run(), 1);
    }

    /** An object is used for at most 512 calls: the last one is as good as the first. */
    private static void usedFor512Calls() {
        HallStiles x = new HallStiles();
        for (int call = 1; call <= 510; call++) {
            x.hours(99);
        }
        Checks.due("call 511: the clock", x.count(0), 510 * 99);
        Checks.due("call 512: undo", x.undo(), 4);
    }
}
