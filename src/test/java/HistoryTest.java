/** Promises 16 to 18: undo, save, restore. */
public final class HistoryTest {
    public static void main(String[] args) {
        undoStepsBack();
        undoOfAFullHistory();
        undoOfEachAction();
        undoKeepsTextAndSnapshot();
        undoBringsBackWhatSlipsHaveSeen();
        errorsRecordNothing();
        historyAfterMuchUse();
        save();
        restore();
        restoreBringsAllBack();
        Checks.end();
    }

    private static void undoStepsBack() {
        HallStiles x = new HallStiles();
        Checks.due("nothing to undo", x.undo(), HallStiles.NONE);
        x.hours(1);
        x.hours(2);
        x.hours(4);
        Checks.due("undo", x.undo(), 2);
        Checks.due("clock", x.count(0), 3);
        Checks.due("undo", x.undo(), 1);
        Checks.due("clock", x.count(0), 1);
        x.hours(8);
        Checks.due("states", x.count(11), 2);
        Checks.due("undo", x.undo(), 1);
        Checks.due("clock", x.count(0), 1);
        Checks.due("undo", x.undo(), 0);
        Checks.due("clock", x.count(0), 0);
        Checks.due("nothing to undo", x.undo(), HallStiles.NONE);
        Checks.due("clock", x.count(0), 0);
    }

    private static void undoOfAFullHistory() {
        for (int actions = 1; actions <= 17; actions++) {
            HallStiles x = new HallStiles();
            for (int i = 0; i < actions; i++) {
                x.hours(1);
                Checks.due("states", x.count(11), Math.min(5, i + 1));
            }
            int states = Math.min(5, actions);
            for (int left = states - 1; left >= 0; left--) {
                Checks.due("undo", x.undo(), left);
                Checks.due("clock", x.count(0), actions - states + left);
            }
            Checks.due("nothing to undo", x.undo(), HallStiles.NONE);
            Checks.due("clock", x.count(0), actions - states);
        }
    }

    private static void dueUndone(String action, HallStiles x, int fact, int before) {
        Checks.due(action + " is recorded", x.count(11), 5);
        Checks.due(action + " is undone", x.undo(), 4);
        Checks.due("fact before " + action, HistoryTest.factOf(x, fact), before);
    }

    private static int factOf(HallStiles x, int fact) {
        switch (fact) {
            case 0:
                return x.count(1);
            case 1:
                return x.stileOf(0, 2);
            case 2:
                return x.hall(1, 0);
            case 3:
                return x.counter(0, 3, 1);
            case 4:
                return x.hall(1, 1);
            case 5:
                return x.stileOf(0, 4);
            case 6:
                return x.stileOf(0, 3);
            case 7:
                return x.count(0);
            default:
                return x.count(9);
        }
    }

    private static void undoOfEachAction() {
        HallStiles x = new HallStiles();
        x.stile(0, 1);
        x.slip(0, 3, 2);
        x.pass(0, true, 20);
        x.save();
        x.set(HallStiles.RATE, 5);
        x.hours(1);
        x.open(0, 0);
        x.stile(0, 2);
        dueUndone("stile", x, 0, 1);
        x.open(0, 2);
        dueUndone("open", x, 1, 0);
        x.room(1, 30);
        dueUndone("room", x, 2, 100);
        x.slip(0, 3, 4);
        dueUndone("slip", x, 3, 2);
        x.pass(0, true, 1);
        dueUndone("pass", x, 4, 20);
        x.audit(0);
        dueUndone("audit", x, 5, 10);
        x.repair(0);
        dueUndone("repair", x, 6, 0);
        x.hours(3);
        dueUndone("hours", x, 7, 1);
        x.close(1);
        dueUndone("close", x, 4, 20);
        x.set(HallStiles.RATE, 6);
        dueUndone("set", x, 8, 5);
        Checks.rewrite(x, "h5");
        x.run();
        dueUndone("run", x, 7, 1);
        x.restore();
        dueUndone("restore", x, 8, 5);
        // An action that changes nothing is recorded all the same.
        x.open(0, 0);
        dueUndone("open to the same", x, 1, 0);
        Checks.due("four states are left", x.count(11), 4);
    }

    private static void undoKeepsTextAndSnapshot() {
        HallStiles x = new HallStiles();
        x.hours(3);
        Checks.write(x, "h1");
        x.save();
        x.hours(4);
        x.undo();
        x.undo();
        Checks.due("the text stays", x.count(12), 2);
        Checks.due("clock", x.count(0), 0);
        Checks.due("the snapshot stays", x.restore(), 0);
        Checks.due("clock", x.count(0), 3);
    }

    private static void undoBringsBackWhatSlipsHaveSeen() {
        HallStiles x = new HallStiles();
        x.stile(0, 1);
        x.slip(0, 3, 3);
        x.pass(0, true, 2);
        x.pass(0, true, 2);
        Checks.due("missed", x.counter(0, 3, 2), 1);
        x.undo();
        Checks.due("missed", x.counter(0, 3, 2), 0);
        Checks.due("the third is missed", x.pass(0, true, 1), 1);
        x.undo();
        x.slip(0, 3, 3);
        x.undo();
        Checks.due("the third is missed", x.pass(0, true, 1), 1);
    }

    private static void errorsRecordNothing() {
        HallStiles x = new HallStiles();
        x.stile(0, 1);
        x.stile(0, 0);
        x.open(0, 4);
        x.room(1, 0);
        x.slip(0, 0, 1);
        x.pass(0, false, 1);
        x.audit(1);
        x.repair(1);
        x.hours(0);
        x.close(0);
        x.set(0, 0);
        x.run();
        x.restore();
        x.append('h');
        x.clearText();
        x.fault();
        x.save();
        x.emptyIn();
        x.leftWithout(0, 1);
        x.most(0, true);
        x.fullness();
        Checks.due("states", x.count(11), 1);
    }

    private static void historyAfterMuchUse() {
        HallStiles x = new HallStiles();
        int clock = 0;
        for (int round = 0; round < 12; round++) {
            for (int i = 0; i < 7; i++) {
                x.hours(1);
                clock++;
            }
            for (int left = 4; left >= 2; left--) {
                Checks.due("undo", x.undo(), left);
                clock--;
                Checks.due("clock", x.count(0), clock);
            }
        }
    }

    private static void save() {
        HallStiles x = new HallStiles();
        Checks.due("save of nobody", x.save(), 0);
        x.stile(0, 1);
        x.stile(0, 2);
        x.pass(0, true, 12);
        x.pass(1, true, 30);
        Checks.due("save", x.save(), 42);
        Checks.due("no action", x.count(11), 4);
        x.pass(1, false, 2);
        Checks.due("save replaces", x.save(), 40);
        x.pass(1, false, 20);
        Checks.due("restore", x.restore(), 40);
    }

    private static void restore() {
        HallStiles x = new HallStiles();
        Checks.due("no snapshot", x.restore(), HallStiles.NOT_POSSIBLE);
        Checks.due("nothing recorded", x.count(11), 0);
        x.save();
        x.stile(0, 1);
        x.pass(0, true, 3);
        Checks.due("restore", x.restore(), 0);
        Checks.due("stiles", x.count(1), 0);
        Checks.due("the history stays, and one more", x.count(11), 3);
        Checks.due("undo of restore", x.undo(), 2);
        Checks.due("people", x.count(3), 3);
        Checks.due("the snapshot remains", x.restore(), 0);
        Checks.due("and again", x.restore(), 0);
        x.stile(4, 5);
        Checks.due("a change after restore leaves the snapshot", x.restore(), 0);
        Checks.due("stiles", x.count(1), 0);
    }

    private static void restoreBringsAllBack() {
        HallStiles x = new HallStiles();
        x.stile(0, 1);
        x.stile(0, 2);
        x.slip(0, 0, 4);
        x.pass(0, true, 7);
        x.room(2, 33);
        x.open(1, 1);
        x.set(HallStiles.RATE, 11);
        x.set(HallStiles.HOURS, 12);
        x.repair(1);
        x.hours(2);
        Checks.write(x, "h9");
        x.save();
        x.stile(3, 4);
        x.slip(0, 0, 0);
        x.pass(0, true, 7);
        x.audit(0);
        x.room(2, 44);
        x.open(1, 3);
        x.set(HallStiles.RATE, 21);
        x.set(HallStiles.HOURS, 22);
        x.hours(20);
        x.append(',');
        x.restore();
        int[] counts = {2, 2, 1, 7, 7, 6, 1, 1, 2, 11, 12, 5, 3};
        for (int what = 0; what < counts.length; what++) {
            Checks.due("count(" + what + ")", x.count(what), counts[what]);
        }
        Checks.due("room", x.hall(2, 0), 33);
        Checks.due("ways", x.stileOf(1, 2), 1);
        Checks.due("repair", x.stileOf(1, 3), 10);
        Checks.due("slip", x.counter(0, 0, 1), 4);
        Checks.due("the eighth is missed", x.pass(0, true, 1), 2);
    }
}
