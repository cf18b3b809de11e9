/**
 * The edges that the document names under "Hours" and "Settings", in its order: each test stands
 * for one sentence, which its comment tells.
 */
public final class EdgesOfHoursTest {
    public static void main(String[] args) {
        theClockAtFirst();
        repairsBecomeShorter();
        whenARepairIsOverAllSlipsAreZero();
        theLeastNumberOfStiles();
        noWayNoDistance();
        aStileUnderRepairIsNoWay();
        aStileThatGoesOtherwiseIsNoWay();
        oneMoreThanTheOther();
        theFarthestHall();
        inTheOrderOfTheirNumbers();
        firstFromTheFirstHall();
        asItWasAtTheBeginningOfTheHour();
        aheadOfThePassingOfTheHour();
        rateAtMost();
        rateOfEachStile();
        neverMoreThanThereIsRoomFor();
        roomThatOthersLeftInTheHour();
        theLeastAndTheGreatestRate();
        theLeastAndTheGreatestHours();
        hoursOfARepairThatGoesOn();
        Checks.end();
    }

    /** The clock is 0 at first; each hour counts, of closing too. */
    private static void theClockAtFirst() {
        HallStiles x = new HallStiles();
        Checks.due("at first", x.count(0), 0);
        x.hours(1);
        Checks.due("an hour", x.count(0), 1);
        x.close(1);
        Checks.due("an hour of closing", x.count(0), 2);
    }

    /** When an hour passes, the repairs become one hour shorter: those of all stiles, to 0. */
    private static void repairsBecomeShorter() {
        HallStiles x = new HallStiles();
        x.stile(0, 1);
        x.stile(0, 2);
        x.stile(0, 3);
        x.set(HallStiles.HOURS, 1);
        x.repair(0);
        x.set(HallStiles.HOURS, 2);
        x.repair(2);
        Checks.due("the shorter one is over", x.hours(1), 1);
        Checks.due("stile 0", x.stileOf(0, 3), 0);
        Checks.due("stile 1", x.stileOf(1, 3), 0);
        Checks.due("stile 2", x.stileOf(2, 3), 1);
        Checks.due("the longer one is over", x.hours(1), 1);
        Checks.due("none is over twice", x.hours(99), 0);
        Checks.due("not below 0", x.stileOf(0, 3), 0);
    }

    /** When a repair is over, all 4 slips of the stile are 0: at that hour, not before. */
    private static void whenARepairIsOverAllSlipsAreZero() {
        HallStiles x = new HallStiles();
        for (int stile = 0; stile < 3; stile++) {
            x.stile(0, 1);
            for (int counter = 0; counter < 4; counter++) {
                x.slip(stile, counter, 2 + counter);
            }
        }
        x.repair(1);
        x.hours(5);
        Checks.due("an hour before", x.count(7), 12);
        x.slip(1, 1, 9);
        x.hours(1);
        for (int counter = 0; counter < 4; counter++) {
            Checks.due("over", x.counter(1, counter, 1), 0);
            Checks.due("the stile before", x.counter(0, counter, 1), 2 + counter);
            Checks.due("the stile behind", x.counter(2, counter, 1), 2 + counter);
        }
        x.slip(1, 1, 9);
        x.hours(99);
        Checks.due("a slip that is set later stays", x.counter(1, 1, 1), 9);
    }

    /** The distance is the least number of stiles on a way to the street. */
    private static void theLeastNumberOfStiles() {
        HallStiles x = new HallStiles();
        x.stile(1, 2);
        x.stile(2, 3);
        x.stile(3, 0);
        Checks.due("the only way", x.hall(1, 4), 3);
        x.stile(3, 1);
        Checks.due("a shorter way", x.hall(1, 4), 2);
        x.stile(0, 1);
        Checks.due("the shortest way", x.hall(1, 4), 1);
        x.stile(1, 0);
        Checks.due("another that is as short", x.hall(1, 4), 1);
    }

    /** There is none if there is no way. */
    private static void noWayNoDistance() {
        HallStiles x = new HallStiles();
        Checks.due("no stile", x.hall(1, 4), HallStiles.NONE);
        x.stile(1, 2);
        x.stile(2, 3);
        x.stile(3, 1);
        Checks.due("stiles in a ring", x.hall(1, 4), HallStiles.NONE);
        x.stile(4, 0);
        Checks.due("a stile of another hall", x.hall(1, 4), HallStiles.NONE);
        x.stile(4, 3);
        Checks.due("a way at last", x.hall(1, 4), 3);
    }

    /** Over stiles that are not under repair. */
    private static void aStileUnderRepairIsNoWay() {
        HallStiles x = new HallStiles();
        x.stile(0, 1);
        x.set(HallStiles.HOURS, 2);
        x.repair(0);
        Checks.due("two hours yet", x.hall(1, 4), HallStiles.NONE);
        x.hours(1);
        Checks.due("an hour yet", x.hall(1, 4), HallStiles.NONE);
        x.hours(1);
        Checks.due("over", x.hall(1, 4), 1);
    }

    /** Over stiles that go this way: from the hall to the street, not back. */
    private static void aStileThatGoesOtherwiseIsNoWay() {
        int[] fromFirst = {1, 1, HallStiles.NONE, HallStiles.NONE};
        int[] fromSecond = {1, HallStiles.NONE, 1, HallStiles.NONE};
        for (int ways = 0; ways < 4; ways++) {
            HallStiles x = new HallStiles();
            x.stile(1, 0);
            x.stile(0, 2);
            x.open(0, ways);
            x.open(1, ways);
            Checks.due("from its first hall, ways " + ways, x.hall(1, 4), fromFirst[ways]);
            Checks.due("from its second hall, ways " + ways, x.hall(2, 4), fromSecond[ways]);
        }
    }

    /** Halls at the same distance pass nobody to each other, nor do halls without a way. */
    private static void oneMoreThanTheOther() {
        HallStiles x = new HallStiles();
        x.stile(0, 1);
        x.stile(0, 2);
        x.stile(1, 2);
        x.pass(0, true, 99);
        x.room(2, 1);
        Checks.due("30 go out", x.close(1), 69);
        Checks.due("nobody goes over", x.hall(2, 1), 0);
        HallStiles y = new HallStiles();
        y.stile(0, 1);
        y.stile(1, 2);
        y.pass(0, true, 50);
        y.open(0, 3);
        Checks.due("no way", y.close(1), 50);
        Checks.due("nobody goes over", y.hall(2, 1), 0);
    }

    /** The distance 5 is the greatest; from there, people take five hours. */
    private static void theFarthestHall() {
        HallStiles x = new HallStiles();
        for (int hall = 0; hall < 5; hall++) {
            x.stile(hall, hall + 1);
            x.pass(hall, true, 30);
        }
        Checks.due("the fifth hall", x.hall(5, 4), 5);
        for (int hour = 1; hour <= 4; hour++) {
            Checks.due("on the way", x.close(1), 30);
            Checks.due("one hall nearer", x.hall(5 - hour, 1), 30);
        }
        Checks.due("out", x.close(1), 0);
    }

    /** For each stile, in the order of their numbers: so a chain is passed in a single hour. */
    private static void inTheOrderOfTheirNumbers() {
        HallStiles x = new HallStiles();
        for (int hall = 5; hall > 0; hall--) {
            x.stile(hall, hall - 1);
        }
        for (int stile = 4; stile >= 0; stile--) {
            x.pass(stile, false, 30);
        }
        Checks.due("in the fifth hall", x.hall(5, 1), 30);
        Checks.due("all the way in an hour", x.close(1), 0);
        for (int stile = 0; stile < 5; stile++) {
            Checks.due("by stile " + stile, x.counter(stile, 0, 0), 30);
        }
    }

    /** Both directions of each stile: it does not matter which of its halls is the nearer one. */
    private static void firstFromTheFirstHall() {
        for (int first = 0; first < 2; first++) {
            HallStiles x = new HallStiles();
            x.stile(first + 1, 2 - first);
            x.stile(first, 1 - first);
            x.pass(1, first == 0, 20);
            x.pass(0, first == 0, 20);
            Checks.due("in hall 2", x.hall(2, 1), 20);
            Checks.due("out", x.close(1), 0);
            Checks.due("nobody came in again", x.counter(1, first == 0 ? 0 : 2, 0), 20);
        }
    }

    /** The distance as it was at the beginning of this hour, not of the first one. */
    private static void asItWasAtTheBeginningOfTheHour() {
        HallStiles x = new HallStiles();
        x.stile(0, 1);
        x.stile(1, 2);
        x.stile(2, 0);
        x.pass(0, true, 90);
        x.set(HallStiles.HOURS, 1);
        x.repair(0);
        // Hour 1: by way of hall 2. Hour 2 and 3: both doors.
        Checks.due("hour 1", x.close(1), 60);
        Checks.due("hour 2", x.close(1), 30);
        Checks.due("hour 3", x.close(1), 0);
        Checks.due("through hall 2", x.counter(1, 0, 0), 30);
    }

    /** Ahead of the passing of the hour: a repair that is over in it serves the next hour. */
    private static void aheadOfThePassingOfTheHour() {
        HallStiles x = new HallStiles();
        x.stile(0, 1);
        x.pass(0, true, 10);
        x.slip(0, 2, 2);
        x.set(HallStiles.HOURS, 1);
        x.repair(0);
        Checks.due("the last hour of the repair", x.close(1), 10);
        Checks.due("the next one", x.close(1), 0);
        Checks.due("without the slip", x.counter(0, 2, 0), 10);
    }

    /** As many people pass as possible, but RATE at most. */
    private static void rateAtMost() {
        for (int people = 29; people <= 31; people++) {
            HallStiles x = new HallStiles();
            x.stile(0, 1);
            x.pass(0, true, people);
            Checks.due("left of " + people, x.close(1), Math.max(0, people - 30));
        }
    }

    /** RATE people for each stile, from the same hall too. */
    private static void rateOfEachStile() {
        HallStiles x = new HallStiles();
        x.stile(0, 1);
        x.stile(1, 0);
        x.stile(0, 1);
        x.pass(0, true, 99);
        Checks.due("three stiles", x.close(1), 9);
        Checks.due("what is left takes the first one", x.close(1), 0);
        Checks.due("stile 0", x.counter(0, 2, 0), 39);
        Checks.due("stile 1", x.counter(1, 0, 0), 30);
        Checks.due("stile 2", x.counter(2, 2, 0), 30);
    }

    /** Never more than there is room for: nobody into a full hall, one where one has room. */
    private static void neverMoreThanThereIsRoomFor() {
        for (int room = 10; room <= 41; room++) {
            HallStiles x = new HallStiles();
            x.stile(2, 1);
            x.stile(1, 0);
            x.pass(1, false, 80);
            x.pass(0, false, 80);
            x.pass(1, false, 10);
            x.room(1, room);
            x.close(1);
            int passed = Math.min(30, room - 10);
            Checks.due("hall 2, room " + room, x.hall(2, 1), 80 - passed);
            Checks.due("hall 1, room " + room, x.hall(1, 1), Math.max(0, 10 + passed - 30));
        }
    }

    /** Those who left a hall ahead of a stile's turn have made room in it in this hour. */
    private static void roomThatOthersLeftInTheHour() {
        HallStiles x = new HallStiles();
        x.stile(1, 0);
        x.stile(2, 1);
        x.room(1, 10);
        x.pass(0, false, 10);
        x.pass(1, false, 10);
        x.pass(0, false, 10);
        Checks.due("10 go out, 10 go on", x.close(1), 10);
        Checks.due("hall 1", x.hall(1, 1), 10);
        Checks.due("hall 2", x.hall(2, 1), 0);
    }

    /** RATE (1 to 99; 30 at first). */
    private static void theLeastAndTheGreatestRate() {
        HallStiles x = new HallStiles();
        x.stile(0, 1);
        x.pass(0, true, 100 - 1);
        Checks.due("RATE at first", x.count(9), 30);
        Checks.due("0", x.set(HallStiles.RATE, 0), HallStiles.BAD_VALUE);
        Checks.due("100", x.set(HallStiles.RATE, 100), HallStiles.BAD_VALUE);
        Checks.due("1", x.set(HallStiles.RATE, 1), 30);
        Checks.due("one by one", x.close(1), 98);
        Checks.due("99", x.set(HallStiles.RATE, 99), 1);
        Checks.due("all at once", x.close(1), 0);
    }

    /** HOURS (1 to 48; 6 at first). */
    private static void theLeastAndTheGreatestHours() {
        HallStiles x = new HallStiles();
        x.stile(0, 1);
        x.stile(0, 1);
        x.stile(0, 1);
        Checks.due("HOURS at first", x.count(10), 6);
        Checks.due("0", x.set(HallStiles.HOURS, 0), HallStiles.BAD_VALUE);
        Checks.due("49", x.set(HallStiles.HOURS, 49), HallStiles.BAD_VALUE);
        Checks.due("as at first", x.repair(0), 6);
        Checks.due("1", x.set(HallStiles.HOURS, 1), 6);
        Checks.due("an hour", x.repair(1), 1);
        Checks.due("48", x.set(HallStiles.HOURS, 48), 1);
        Checks.due("48 hours", x.repair(2), 48);
        Checks.due("two are over", x.hours(47), 2);
        Checks.due("the third", x.hours(1), 1);
    }

    /** HOURS are the hours of a repair that begins, not of one that goes on. */
    private static void hoursOfARepairThatGoesOn() {
        HallStiles x = new HallStiles();
        x.stile(0, 1);
        x.repair(0);
        x.set(HallStiles.HOURS, 1);
        Checks.due("hours yet", x.stileOf(0, 3), 6);
        Checks.due("not yet over", x.hours(5), 0);
        Checks.due("over", x.hours(1), 1);
    }
}
