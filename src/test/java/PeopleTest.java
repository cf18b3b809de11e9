/** Promises 6 to 8: pass, audit, repair. */
public final class PeopleTest {
    public static void main(String[] args) {
        passErrors();
        passMovesPeople();
        passCounts();
        passReasonsInOrder();
        passFromStreetToStreetSide();
        passAnswersTheGap();
        audit();
        auditMakesBothPairsAgree();
        auditKeepsTheSlips();
        repair();
        repairEnds();
        repairStopsPassing();
        Checks.end();
    }

    private static void passErrors() {
        HallStiles x = new HallStiles();
        Checks.due("pass without stile", x.pass(0, true, 0), HallStiles.NO_SUCH);
        x.stile(0, 1);
        Checks.due("pass(-1)", x.pass(-1, true, 1), HallStiles.NO_SUCH);
        Checks.due("pass(1)", x.pass(1, true, 1), HallStiles.NO_SUCH);
        x.open(0, 3);
        int[] bad = {-1, 0, 100, Integer.MIN_VALUE, Integer.MAX_VALUE};
        for (int people : bad) {
            Checks.due("pass " + people, x.pass(0, true, people), HallStiles.BAD_VALUE);
        }
        Checks.due("states", x.count(11), 2);
        x.open(0, 0);
        Checks.due("pass 1", x.pass(0, true, 1), 0);
        Checks.due("pass 99", x.pass(0, true, 99), 0);
        Checks.due("states", x.count(11), 5);
    }

    private static void passMovesPeople() {
        HallStiles x = new HallStiles();
        x.stile(0, 1);
        x.stile(2, 1);
        x.pass(0, true, 50);
        Checks.due("from second", x.pass(1, false, 20), 0);
        Checks.due("hall 1", x.hall(1, 1), 30);
        Checks.due("hall 2", x.hall(2, 1), 20);
        Checks.due("from first", x.pass(1, true, 5), 0);
        Checks.due("hall 1", x.hall(1, 1), 35);
        Checks.due("hall 2", x.hall(2, 1), 15);
        Checks.due("all", x.count(3), 50);
        Checks.due("out", x.pass(0, false, 35), 0);
        Checks.due("all", x.count(3), 15);
    }

    private static void passCounts() {
        HallStiles x = new HallStiles();
        x.stile(1, 0);
        x.pass(0, false, 9);
        int[] in = {0, 9, 9, 0};
        for (int counter = 0; counter < 4; counter++) {
            Checks.due("in: counter " + counter, x.counter(0, counter, 0), in[counter]);
        }
        x.pass(0, true, 4);
        int[] both = {4, 9, 9, 4};
        for (int counter = 0; counter < 4; counter++) {
            Checks.due("both: counter " + counter, x.counter(0, counter, 0), both[counter]);
            Checks.due("missed: counter " + counter, x.counter(0, counter, 2), 0);
        }
    }

    private static void passReasonsInOrder() {
        HallStiles x = new HallStiles();
        x.stile(0, 1);
        x.stile(1, 2);
        x.room(2, 3);
        x.pass(0, true, 4);
        x.open(1, 2);
        x.repair(1);
        Checks.due("under repair", x.pass(1, true, 5), -11);
        x.hours(6);
        Checks.due("not this way", x.pass(1, true, 5), -12);
        x.open(1, 1);
        Checks.due("too few people", x.pass(1, true, 5), -13);
        Checks.due("too little room", x.pass(1, true, 4), -14);
        Checks.due("as many as there is room for", x.pass(1, true, 3), 0);
        Checks.due("no room at all", x.pass(1, true, 1), -14);
        Checks.due("the last", x.hall(1, 1), 1);
        Checks.due("not back", x.pass(1, false, 1), -12);
    }

    private static void passFromStreetToStreetSide() {
        HallStiles x = new HallStiles();
        x.stile(0, 3);
        x.room(3, 500);
        for (int i = 0; i < 5; i++) {
            Checks.due("the street has always people", x.pass(0, true, 99), 0);
        }
        Checks.due("six more", x.pass(0, true, 6), -14);
        Checks.due("five more", x.pass(0, true, 5), 0);
        for (int i = 0; i < 5; i++) {
            Checks.due("the street has always room", x.pass(0, false, 99), 0);
        }
        Checks.due("six more out", x.pass(0, false, 6), -13);
        Checks.due("five more out", x.pass(0, false, 5), 0);
        Checks.due("all out", x.count(3), 0);
    }

    private static void passAnswersTheGap() {
        HallStiles x = new HallStiles();
        x.stile(0, 1);
        x.slip(0, 0, 2);
        x.slip(0, 1, 3);
        Checks.due("2 of 5 missed at the first side", x.pass(0, true, 5), 2);
        Checks.due("1 of 4 missed at the first side", x.pass(0, false, 4), 3);
        x.slip(0, 3, 2);
        Checks.due("both miss as many", x.pass(0, true, 4), 3);
        Checks.due("stileOf tells the same", x.stileOf(0, 4), 3);
    }

    private static void audit() {
        HallStiles x = new HallStiles();
        Checks.due("audit without stile", x.audit(0), HallStiles.NO_SUCH);
        x.stile(0, 1);
        Checks.due("audit(-1)", x.audit(-1), HallStiles.NO_SUCH);
        Checks.due("audit(1)", x.audit(1), HallStiles.NO_SUCH);
        Checks.due("audit without gap", x.audit(0), 0);
        Checks.due("it is an action all the same", x.count(11), 2);
    }

    private static void auditMakesBothPairsAgree() {
        for (int slipped = 0; slipped < 4; slipped++) {
            HallStiles x = new HallStiles();
            x.stile(0, 1);
            x.stile(0, 1);
            x.slip(0, slipped, 2);
            x.slip(1, slipped, 2);
            x.pass(0, true, 20);
            x.pass(0, false, 10);
            x.pass(1, true, 20);
            int gap = slipped == 0 || slipped == 3 ? 10 : 5;
            Checks.due("gap by counter " + slipped, x.audit(0), gap);
            int[] counts = {20, 10, 10, 20};
            for (int counter = 0; counter < 4; counter++) {
                Checks.due("count " + counter, x.counter(0, counter, 0), counts[counter]);
            }
            Checks.due("gap then", x.stileOf(0, 4), 0);
            Checks.due("the other stile's gap", x.stileOf(1, 4), gap == 10 ? 10 : 0);
            Checks.due("people stay", x.hall(1, 1), 30);
        }
    }

    private static void auditKeepsTheSlips() {
        HallStiles x = new HallStiles();
        x.stile(0, 1);
        x.slip(0, 3, 3);
        x.pass(0, true, 5);
        Checks.due("gap", x.audit(0), 1);
        Checks.due("slip stays", x.counter(0, 3, 1), 3);
        Checks.due("missed stays", x.counter(0, 3, 2), 1);
        Checks.due("the sixth is missed", x.pass(0, true, 1), 1);
        Checks.due("count", x.counter(0, 3, 0), 5);
    }

    private static void repair() {
        HallStiles x = new HallStiles();
        Checks.due("repair without stile", x.repair(0), HallStiles.NO_SUCH);
        x.stile(0, 1);
        x.stile(1, 2);
        Checks.due("repair(-1)", x.repair(-1), HallStiles.NO_SUCH);
        Checks.due("repair(2)", x.repair(2), HallStiles.NO_SUCH);
        Checks.due("repair(0)", x.repair(0), 6);
        Checks.due("hours yet", x.stileOf(0, 3), 6);
        Checks.due("repair(0) again", x.repair(0), HallStiles.NOT_POSSIBLE);
        Checks.due("states", x.count(11), 3);
        x.hours(5);
        Checks.due("an hour yet", x.repair(0), HallStiles.NOT_POSSIBLE);
        x.set(HallStiles.HOURS, 48);
        Checks.due("a repair that goes on keeps its hours", x.stileOf(0, 3), 1);
        Checks.due("repair(1)", x.repair(1), 53);
        Checks.due("the hour passes", x.hours(1), 1);
        Checks.due("repair(0) anew", x.repair(0), 54);
        Checks.due("hours yet", x.stileOf(0, 3), 48);
        Checks.due("both under repair", x.count(2), 2);
    }

    private static void repairEnds() {
        HallStiles x = new HallStiles();
        x.stile(0, 1);
        x.stile(0, 1);
        for (int counter = 0; counter < 4; counter++) {
            x.slip(0, counter, 2);
            x.slip(1, counter, 2);
        }
        x.pass(0, true, 5);
        x.set(HallStiles.HOURS, 2);
        x.repair(0);
        x.hours(1);
        Checks.due("slips stay till it is over", x.count(7), 8);
        x.slip(0, 0, 5);
        x.hours(1);
        for (int counter = 0; counter < 4; counter++) {
            Checks.due("slip " + counter, x.counter(0, counter, 1), 0);
            Checks.due("slip of the other stile", x.counter(1, counter, 1), 2);
        }
        Checks.due("missed so far stays", x.counter(0, 3, 2), 2);
        Checks.due("counts stay", x.counter(0, 3, 0), 3);
        x.pass(0, true, 10);
        Checks.due("none is missed then", x.counter(0, 3, 2), 2);
        x.slip(0, 3, 2);
        x.pass(0, true, 1);
        Checks.due("begins anew", x.counter(0, 3, 2), 2);
    }

    private static void repairStopsPassing() {
        HallStiles x = new HallStiles();
        x.stile(0, 1);
        x.set(HallStiles.HOURS, 1);
        x.repair(0);
        Checks.due("in", x.pass(0, true, 1), -11);
        Checks.due("out", x.pass(0, false, 1), -11);
        Checks.due("an audit is possible", x.audit(0), 0);
        x.hours(1);
        Checks.due("in", x.pass(0, true, 1), 0);
    }
}
