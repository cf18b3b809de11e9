/**
 * Turnstiles between the halls of an exhibition, which count on both of their sides.
 *
 * The document (shared/DOC.md) says what each call does; the comments here say only why the
 * code is as it is. All rows are made with the object and used again: no call makes an object.
 */
public final class HallStiles {
    public static final int NO_SUCH = -100001;
    public static final int BAD_VALUE = -100002;
    public static final int TOO_MANY = -100003;
    public static final int NOT_POSSIBLE = -100004;
    public static final int NONE = -100005;
    public static final int RATE = 0, HOURS = 1;

    private static final int HALLS = 6;
    private static final int STREET = 0;
    private static final int FIRST_ROOM = 100;
    private static final int MOST_ROOM = 500;
    private static final int MOST_STILES = 12;
    private static final int MOST_AT_ONCE = 99;
    private static final int MOST_HOURS = 99;

    private static final int BOTH_WAYS = 0;
    private static final int FROM_FIRST = 1;
    private static final int FROM_SECOND = 2;
    private static final int LOCKED = 3;

    private static final int COUNTERS = 4;
    private static final int FIRST_OUT = 0;
    private static final int FIRST_IN = 1;
    private static final int SECOND_OUT = 2;
    private static final int SECOND_IN = 3;
    private static final int LEAST_SLIP = 2;
    private static final int MOST_SLIP = 9;

    private static final int NO_REASON = 0;
    private static final int UNDER_REPAIR = 1;
    private static final int NOT_THIS_WAY = 2;
    private static final int TOO_FEW_PEOPLE = 3;
    private static final int TOO_LITTLE_ROOM = 4;

    private static final int FIRST_RATE = 30;
    private static final int MOST_RATE = 99;
    private static final int FIRST_REPAIR = 6;
    private static final int MOST_REPAIR = 48;

    private static final int MOST_TEXT = 60;
    private static final int MOST_HISTORY = 5;
    private static final int MOST_HOURS_AHEAD = 300;
    private static final int NO_ERROR = 0;

    /** Far above each distance there is, so that no distance is 1 less or 1 more than it. */
    private static final int NO_WAY = 1000;

    private final State now = new State();
    private final State snapshot = new State();
    private final State trial = new State();
    private final History history = new History();
    private final Closing closing = new Closing();
    private final Script script = new Script();
    private boolean hasSnapshot = false;

    public HallStiles() {
    }

    // ---- stiles and halls

    public int stile(int first, int second) {
        if (!isHall(first) || !isHall(second)) {
            return NO_SUCH;
        }
        if (first == second) {
            return BAD_VALUE;
        }
        if (now.stiles >= MOST_STILES) {
            return TOO_MANY;
        }
        history.keep(now);
        return now.putUp(first, second);
    }

    public int open(int stile, int ways) {
        if (!now.hasStile(stile)) {
            return NO_SUCH;
        }
        if (ways < BOTH_WAYS || ways > LOCKED) {
            return BAD_VALUE;
        }
        history.keep(now);
        int previous = at(now.ways, stile);
        put(now.ways, stile, ways);
        return previous;
    }

    public int room(int hall, int room) {
        if (!isHallWithRoom(hall)) {
            return NO_SUCH;
        }
        if (room < 1 || room > MOST_ROOM) {
            return BAD_VALUE;
        }
        if (at(now.people, hall) > room) {
            return NOT_POSSIBLE;
        }
        history.keep(now);
        int previous = at(now.rooms, hall);
        put(now.rooms, hall, room);
        return previous;
    }

    public int slip(int stile, int counter, int slip) {
        if (!now.hasStile(stile)) {
            return NO_SUCH;
        }
        if (!isCounter(counter) || !isSlip(slip)) {
            return BAD_VALUE;
        }
        history.keep(now);
        int index = counterIndex(stile, counter);
        int previous = at(now.counters.slips, index);
        now.counters.beginAnew(index, slip);
        return previous;
    }

    // ---- people, audits, repairs

    public int pass(int stile, boolean fromFirst, int people) {
        int error = passError(stile, fromFirst, people);
        if (error != NO_ERROR) {
            return error;
        }
        history.keep(now);
        now.letThrough(stile, fromFirst, people);
        return now.counters.gapOf(stile);
    }

    public int audit(int stile) {
        if (!now.hasStile(stile)) {
            return NO_SUCH;
        }
        history.keep(now);
        int gap = now.counters.gapOf(stile);
        now.counters.makeAgree(stile);
        return gap;
    }

    public int repair(int stile) {
        int error = repairError(stile);
        if (error != NO_ERROR) {
            return error;
        }
        history.keep(now);
        now.beginRepair(stile);
        return now.clock + at(now.repairs, stile);
    }

    // ---- hours, settings

    public int hours(int many) {
        if (!isManyHours(many)) {
            return BAD_VALUE;
        }
        history.keep(now);
        return now.letHoursPass(many);
    }

    public int close(int many) {
        if (!isManyHours(many)) {
            return BAD_VALUE;
        }
        history.keep(now);
        boolean somebodyPassed = true;
        for (int hour = 0; hour < many && somebodyPassed; hour++) {
            somebodyPassed = closing.closeForAnHour(now) > 0;
        }
        return now.peopleOfAllHalls();
    }

    public int set(int setting, int value) {
        if (setting != RATE && setting != HOURS) {
            return NO_SUCH;
        }
        if (value < 1 || value > (setting == RATE ? MOST_RATE : MOST_REPAIR)) {
            return BAD_VALUE;
        }
        history.keep(now);
        int previous = setting == RATE ? now.rate : now.repairHours;
        if (setting == RATE) {
            now.rate = value;
        } else {
            now.repairHours = value;
        }
        return previous;
    }

    // ---- text

    public int append(int character) {
        if (character < 32 || character > 126) {
            return BAD_VALUE;
        }
        if (script.length >= MOST_TEXT) {
            return TOO_MANY;
        }
        script.addCharacter(character);
        return script.length;
    }

    public int clearText() {
        int length = script.length;
        script.length = 0;
        return length;
    }

    public int fault() {
        return script.findFault();
    }

    public int run() {
        int fault = script.findFault();
        if (fault != NONE) {
            return -100 - fault;
        }
        history.keep(now);
        script.goToBegin();
        int carriedOut = 0;
        // An order has a character at the least, so there are fewer orders than characters.
        while (carriedOut < MOST_TEXT && script.readOrder() && carryOutOrder()) {
            carriedOut++;
        }
        return carriedOut;
    }

    // ---- history and snapshot

    public int undo() {
        if (history.size == 0) {
            return NONE;
        }
        history.takeLatest(now);
        return history.size;
    }

    public int save() {
        snapshot.copyFrom(now);
        hasSnapshot = true;
        return now.peopleOfAllHalls();
    }

    public int restore() {
        if (!hasSnapshot) {
            return NOT_POSSIBLE;
        }
        history.keep(now);
        now.copyFrom(snapshot);
        return now.peopleOfAllHalls();
    }

    // ---- queries; they change nothing

    public int hall(int hall, int what) {
        if (!isHallWithRoom(hall)) {
            return NO_SUCH;
        }
        switch (what) {
            case 0:
                return at(now.rooms, hall);
            case 1:
                return at(now.people, hall);
            case 2:
                return now.toldByOwnSides(hall);
            case 3:
                return now.toldByFarSides(hall);
            case 4:
                return closing.distanceOrNone(now, hall);
            case 5:
                return now.stilesOfHall(hall);
            default:
                return BAD_VALUE;
        }
    }

    public int stileOf(int stile, int what) {
        if (!now.hasStile(stile)) {
            return NO_SUCH;
        }
        switch (what) {
            case 0:
                return at(now.firsts, stile);
            case 1:
                return at(now.seconds, stile);
            case 2:
                return at(now.ways, stile);
            case 3:
                return at(now.repairs, stile);
            case 4:
                return now.counters.gapOf(stile);
            default:
                return BAD_VALUE;
        }
    }

    public int counter(int stile, int counter, int what) {
        if (!now.hasStile(stile)) {
            return NO_SUCH;
        }
        if (!isCounter(counter)) {
            return BAD_VALUE;
        }
        int index = counterIndex(stile, counter);
        switch (what) {
            case 0:
                return at(now.counters.counts, index);
            case 1:
                return at(now.counters.slips, index);
            case 2:
                return at(now.counters.missed, index);
            default:
                return BAD_VALUE;
        }
    }

    public int reason(int stile, boolean fromFirst, int people) {
        if (!now.hasStile(stile)) {
            return NO_SUCH;
        }
        if (!isManyPeople(people)) {
            return BAD_VALUE;
        }
        return now.whyNot(stile, fromFirst, people);
    }

    public int worst(int rank) {
        if (rank < 0) {
            return BAD_VALUE;
        }
        for (int stile = 0; stile < now.stiles; stile++) {
            if (now.counters.gapOf(stile) > 0 && now.worseStiles(stile) == rank) {
                return stile;
            }
        }
        return NONE;
    }

    public int count(int what) {
        switch (what) {
            case 0:
                return now.clock;
            case 1:
                return now.stiles;
            case 2:
                return now.stilesUnderRepair();
            case 3:
                return now.peopleOfAllHalls();
            case 4:
                return now.toldByAllOwnSides();
            case 5:
                return now.toldByAllFarSides();
            case 6:
                return now.sumOfGaps();
            case 7:
                return now.counters.withSlip();
            case 8:
                return now.fullestHall();
            case 9:
                return now.rate;
            case 10:
                return now.repairHours;
            case 11:
                return history.size;
            case 12:
                return script.length;
            default:
                return BAD_VALUE;
        }
    }

    // ---- what would be; nothing is changed

    public int most(int stile, boolean fromFirst) {
        if (!now.hasStile(stile)) {
            return NO_SUCH;
        }
        return now.mostThrough(stile, fromFirst);
    }

    public int emptyIn() {
        trial.copyFrom(now);
        for (int hour = 0; hour < MOST_HOURS_AHEAD; hour++) {
            if (trial.peopleOfAllHalls() == 0) {
                return hour;
            }
            boolean repairsGoOn = trial.stilesUnderRepair() > 0;
            // An hour without either changes the clock alone, and so would all that follow.
            if (closing.closeForAnHour(trial) == 0 && !repairsGoOn) {
                return NONE;
            }
        }
        return trial.peopleOfAllHalls() == 0 ? MOST_HOURS_AHEAD : NONE;
    }

    public int leftWithout(int stile, int many) {
        if (!now.hasStile(stile)) {
            return NO_SUCH;
        }
        if (!isManyHours(many)) {
            return BAD_VALUE;
        }
        trial.copyFrom(now);
        put(trial.ways, stile, LOCKED);
        for (int hour = 0; hour < many; hour++) {
            closing.closeForAnHour(trial);
        }
        return trial.peopleOfAllHalls();
    }

    public double fullness() {
        int rooms = now.roomsOfAllHalls();
        return rooms > 0 ? (double) now.peopleOfAllHalls() / rooms : 0.0;
    }

    // ---- what the calls have in common

    private int passError(int stile, boolean fromFirst, int people) {
        if (!now.hasStile(stile)) {
            return NO_SUCH;
        }
        if (!isManyPeople(people)) {
            return BAD_VALUE;
        }
        int why = now.whyNot(stile, fromFirst, people);
        return why == NO_REASON ? NO_ERROR : -10 - why;
    }

    private int repairError(int stile) {
        if (!now.hasStile(stile)) {
            return NO_SUCH;
        }
        return at(now.repairs, stile) > 0 ? NOT_POSSIBLE : NO_ERROR;
    }

    /** Does not record the state, because the whole script is one action. */
    private boolean carryOutOrder() {
        switch (script.orderKind) {
            case '>':
                return carryOutPass(true);
            case '<':
                return carryOutPass(false);
            case 'a':
                return carryOutAudit();
            case 'r':
                return carryOutRepair();
            default:
                now.letHoursPass(script.orderNumber);
                return true;
        }
    }

    private boolean carryOutPass(boolean fromFirst) {
        if (passError(script.orderStile, fromFirst, script.orderNumber) != NO_ERROR) {
            return false;
        }
        now.letThrough(script.orderStile, fromFirst, script.orderNumber);
        return true;
    }

    private boolean carryOutAudit() {
        if (!now.hasStile(script.orderStile)) {
            return false;
        }
        now.counters.makeAgree(script.orderStile);
        return true;
    }

    private boolean carryOutRepair() {
        if (repairError(script.orderStile) != NO_ERROR) {
            return false;
        }
        now.beginRepair(script.orderStile);
        return true;
    }

    private static boolean isHall(int hall) {
        return hall >= 0 && hall < HALLS;
    }

    private static boolean isHallWithRoom(int hall) {
        return isHall(hall) && hall != STREET;
    }

    private static boolean isCounter(int counter) {
        return counter >= 0 && counter < COUNTERS;
    }

    private static boolean isSlip(int slip) {
        return slip == 0 || slip >= LEAST_SLIP && slip <= MOST_SLIP;
    }

    private static boolean isManyPeople(int people) {
        return people >= 1 && people <= MOST_AT_ONCE;
    }

    private static boolean isManyHours(int many) {
        return many >= 1 && many <= MOST_HOURS;
    }

    private static int counterIndex(int stile, int counter) {
        return stile * COUNTERS + counter;
    }

    // Rows are read and written here alone, so that each index is looked at before it is used.

    private static int at(int[] row, int index) {
        return index >= 0 && index < row.length ? row[index] : 0;
    }

    private static void put(int[] row, int index, int value) {
        if (index >= 0 && index < row.length) {
            row[index] = value;
        }
    }

    private static void add(int[] row, int index, int more) {
        put(row, index, at(row, index) + more);
    }

    private static void copyRow(int[] from, int[] to) {
        for (int i = 0; i < from.length && i < to.length; i++) {
            to[i] = from[i];
        }
    }

    /** The counters of all stiles, four of each one behind the other. */
    private static final class Counters {
        private final int[] counts = new int[MOST_STILES * COUNTERS];
        private final int[] slips = new int[MOST_STILES * COUNTERS];
        /** People seen since the last one who was missed, or since the slip was set. */
        private final int[] seen = new int[MOST_STILES * COUNTERS];
        private final int[] missed = new int[MOST_STILES * COUNTERS];

        void copyFrom(Counters other) {
            copyRow(other.counts, counts);
            copyRow(other.slips, slips);
            copyRow(other.seen, seen);
            copyRow(other.missed, missed);
        }

        void beginAnew(int index, int slip) {
            put(slips, index, slip);
            put(seen, index, 0);
        }

        void seePeople(int index, int people) {
            int slip = at(slips, index);
            int misses = 0;
            if (slip > 0) {
                int sight = at(seen, index) + people;
                misses = sight / slip;
                put(seen, index, sight % slip);
            }
            add(counts, index, people - misses);
            add(missed, index, misses);
        }

        void endSlips(int stile) {
            for (int counter = 0; counter < COUNTERS; counter++) {
                beginAnew(counterIndex(stile, counter), 0);
            }
        }

        int countOf(int stile, int counter) {
            return at(counts, counterIndex(stile, counter));
        }

        int gapOf(int stile) {
            int gapToSecond = countOf(stile, FIRST_OUT) - countOf(stile, SECOND_IN);
            int gapToFirst = countOf(stile, FIRST_IN) - countOf(stile, SECOND_OUT);
            return Math.abs(gapToSecond) + Math.abs(gapToFirst);
        }

        void makeAgree(int stile) {
            makePairAgree(stile, FIRST_OUT, SECOND_IN);
            makePairAgree(stile, FIRST_IN, SECOND_OUT);
        }

        private void makePairAgree(int stile, int one, int other) {
            int greater = Math.max(countOf(stile, one), countOf(stile, other));
            put(counts, counterIndex(stile, one), greater);
            put(counts, counterIndex(stile, other), greater);
        }

        int withSlip() {
            int many = 0;
            for (int index = 0; index < slips.length; index++) {
                if (at(slips, index) > 0) {
                    many++;
                }
            }
            return many;
        }
    }

    /** All that an action can change: the halls, the stiles, the settings and the clock. */
    private static final class State {
        private final int[] rooms = new int[HALLS];
        private final int[] people = new int[HALLS];
        private final int[] firsts = new int[MOST_STILES];
        private final int[] seconds = new int[MOST_STILES];
        private final int[] ways = new int[MOST_STILES];
        private final int[] repairs = new int[MOST_STILES];
        private final Counters counters = new Counters();
        private int stiles = 0;
        private int rate = FIRST_RATE;
        private int repairHours = FIRST_REPAIR;
        private int clock = 0;

        State() {
            for (int hall = 0; hall < rooms.length; hall++) {
                rooms[hall] = FIRST_ROOM;
            }
        }

        void copyFrom(State other) {
            copyRow(other.rooms, rooms);
            copyRow(other.people, people);
            copyRow(other.firsts, firsts);
            copyRow(other.seconds, seconds);
            copyRow(other.ways, ways);
            copyRow(other.repairs, repairs);
            counters.copyFrom(other.counters);
            stiles = other.stiles;
            rate = other.rate;
            repairHours = other.repairHours;
            clock = other.clock;
        }

        boolean hasStile(int stile) {
            return stile >= 0 && stile < stiles;
        }

        /** The cells of a stile that is not there yet are still as they were made. */
        int putUp(int first, int second) {
            int stile = stiles;
            put(firsts, stile, first);
            put(seconds, stile, second);
            stiles = stile + 1;
            return stile;
        }

        int hallBehind(int stile, boolean fromFirst) {
            return fromFirst ? at(firsts, stile) : at(seconds, stile);
        }

        int hallAhead(int stile, boolean fromFirst) {
            return hallBehind(stile, !fromFirst);
        }

        boolean goes(int stile, boolean fromFirst) {
            int way = at(ways, stile);
            return way == BOTH_WAYS || way == (fromFirst ? FROM_FIRST : FROM_SECOND);
        }

        boolean isUnderRepair(int stile) {
            return at(repairs, stile) > 0;
        }

        int whyNot(int stile, boolean fromFirst, int number) {
            if (isUnderRepair(stile)) {
                return UNDER_REPAIR;
            }
            if (!goes(stile, fromFirst)) {
                return NOT_THIS_WAY;
            }
            if (number > readyToLeave(hallBehind(stile, fromFirst))) {
                return TOO_FEW_PEOPLE;
            }
            return number > roomLeft(hallAhead(stile, fromFirst)) ? TOO_LITTLE_ROOM
                    : NO_REASON;
        }

        int mostThrough(int stile, boolean fromFirst) {
            if (isUnderRepair(stile) || !goes(stile, fromFirst)) {
                return 0;
            }
            return Math.min(readyToLeave(hallBehind(stile, fromFirst)),
                    roomLeft(hallAhead(stile, fromFirst)));
        }

        /** At most as many as can pass a stile at once: the street has always enough. */
        private int readyToLeave(int hall) {
            return hall == STREET ? MOST_AT_ONCE : Math.min(MOST_AT_ONCE, at(people, hall));
        }

        /** At most for as many as can pass a stile at once: the street has always enough. */
        private int roomLeft(int hall) {
            return hall == STREET ? MOST_AT_ONCE
                    : Math.min(MOST_AT_ONCE, at(rooms, hall) - at(people, hall));
        }

        void letThrough(int stile, boolean fromFirst, int number) {
            moveTo(hallBehind(stile, fromFirst), -number);
            moveTo(hallAhead(stile, fromFirst), number);
            int out = fromFirst ? FIRST_OUT : SECOND_OUT;
            int in = fromFirst ? SECOND_IN : FIRST_IN;
            counters.seePeople(counterIndex(stile, out), number);
            counters.seePeople(counterIndex(stile, in), number);
        }

        /** Nobody counts the people in the street. */
        private void moveTo(int hall, int number) {
            if (hall != STREET) {
                add(people, hall, number);
            }
        }

        void beginRepair(int stile) {
            put(repairs, stile, repairHours);
        }

        int letHoursPass(int many) {
            int over = 0;
            for (int hour = 0; hour < many; hour++) {
                over += letHourPass();
            }
            return over;
        }

        int letHourPass() {
            int over = 0;
            for (int stile = 0; stile < stiles; stile++) {
                if (isUnderRepair(stile)) {
                    add(repairs, stile, -1);
                    if (!isUnderRepair(stile)) {
                        counters.endSlips(stile);
                        over++;
                    }
                }
            }
            clock++;
            return over;
        }

        int toldByOwnSides(int hall) {
            int told = 0;
            for (int stile = 0; stile < stiles; stile++) {
                if (at(firsts, stile) == hall) {
                    told += toldByFirstSide(stile);
                } else if (at(seconds, stile) == hall) {
                    told += toldBySecondSide(stile);
                }
            }
            return told;
        }

        /** Who went into the one hall came out of the other one, so the far side tells less. */
        int toldByFarSides(int hall) {
            int told = 0;
            for (int stile = 0; stile < stiles; stile++) {
                if (at(firsts, stile) == hall) {
                    told -= toldBySecondSide(stile);
                } else if (at(seconds, stile) == hall) {
                    told -= toldByFirstSide(stile);
                }
            }
            return told;
        }

        private int toldByFirstSide(int stile) {
            return counters.countOf(stile, FIRST_IN) - counters.countOf(stile, FIRST_OUT);
        }

        private int toldBySecondSide(int stile) {
            return counters.countOf(stile, SECOND_IN) - counters.countOf(stile, SECOND_OUT);
        }

        int toldByAllOwnSides() {
            int told = 0;
            for (int hall = STREET + 1; hall < HALLS; hall++) {
                told += toldByOwnSides(hall);
            }
            return told;
        }

        int toldByAllFarSides() {
            int told = 0;
            for (int hall = STREET + 1; hall < HALLS; hall++) {
                told += toldByFarSides(hall);
            }
            return told;
        }

        int peopleOfAllHalls() {
            return sumOfAllHalls(people);
        }

        int roomsOfAllHalls() {
            return sumOfAllHalls(rooms);
        }

        private static int sumOfAllHalls(int[] row) {
            int sum = 0;
            for (int hall = STREET + 1; hall < HALLS; hall++) {
                sum += at(row, hall);
            }
            return sum;
        }

        int fullestHall() {
            int fullest = STREET + 1;
            for (int hall = fullest + 1; hall < HALLS; hall++) {
                int left = at(rooms, hall) - at(people, hall);
                if (left < at(rooms, fullest) - at(people, fullest)) {
                    fullest = hall;
                }
            }
            return fullest;
        }

        int stilesOfHall(int hall) {
            int many = 0;
            for (int stile = 0; stile < stiles; stile++) {
                if (at(firsts, stile) == hall || at(seconds, stile) == hall) {
                    many++;
                }
            }
            return many;
        }

        int stilesUnderRepair() {
            int many = 0;
            for (int stile = 0; stile < stiles; stile++) {
                if (isUnderRepair(stile)) {
                    many++;
                }
            }
            return many;
        }

        int sumOfGaps() {
            int sum = 0;
            for (int stile = 0; stile < stiles; stile++) {
                sum += counters.gapOf(stile);
            }
            return sum;
        }

        int worseStiles(int stile) {
            int gap = counters.gapOf(stile);
            int worse = 0;
            for (int other = 0; other < stiles; other++) {
                int otherGap = counters.gapOf(other);
                if (otherGap > gap || otherGap == gap && other < stile) {
                    worse++;
                }
            }
            return worse;
        }
    }

    /** The latest states, in a ring, so that the oldest one is dropped without moving any. */
    private static final class History {
        private final State[] ring = new State[MOST_HISTORY];
        private int oldest = 0;
        private int size = 0;

        History() {
            for (int i = 0; i < ring.length; i++) {
                ring[i] = new State();
            }
        }

        void keep(State state) {
            State kept = stateAt((oldest + size) % MOST_HISTORY);
            if (kept != null) {
                kept.copyFrom(state);
            }
            if (size < MOST_HISTORY) {
                size++;
            } else {
                oldest = (oldest + 1) % MOST_HISTORY;
            }
        }

        void takeLatest(State state) {
            if (size > 0) {
                size--;
                State latest = stateAt((oldest + size) % MOST_HISTORY);
                if (latest != null) {
                    state.copyFrom(latest);
                }
            }
        }

        private State stateAt(int place) {
            return place >= 0 && place < ring.length ? ring[place] : null;
        }
    }

    /** Hours of closing, with a row for the distances as they were at the hour's beginning. */
    private static final class Closing {
        private final int[] distances = new int[HALLS];

        int distanceOrNone(State state, int hall) {
            measureDistances(state);
            int distance = at(distances, hall);
            return distance == NO_WAY ? NONE : distance;
        }

        int closeForAnHour(State state) {
            measureDistances(state);
            int passed = 0;
            for (int stile = 0; stile < state.stiles; stile++) {
                passed += leaveThrough(state, stile, true);
                passed += leaveThrough(state, stile, false);
            }
            state.letHourPass();
            return passed;
        }

        private int leaveThrough(State state, int stile, boolean fromFirst) {
            int behind = at(distances, state.hallBehind(stile, fromFirst));
            int ahead = at(distances, state.hallAhead(stile, fromFirst));
            if (behind != ahead + 1) {
                return 0;
            }
            int number = Math.min(state.rate, state.mostThrough(stile, fromFirst));
            if (number > 0) {
                state.letThrough(stile, fromFirst, number);
            }
            return number;
        }

        /** A way has at most one stile fewer than there are halls: so many rounds suffice. */
        private void measureDistances(State state) {
            for (int hall = 0; hall < HALLS; hall++) {
                put(distances, hall, hall == STREET ? 0 : NO_WAY);
            }
            boolean nearer = true;
            for (int round = 1; round < HALLS && nearer; round++) {
                nearer = comeNearerByAll(state);
            }
        }

        private boolean comeNearerByAll(State state) {
            boolean nearer = false;
            for (int stile = 0; stile < state.stiles; stile++) {
                boolean fromFirst = comeNearer(state, stile, true);
                boolean fromSecond = comeNearer(state, stile, false);
                nearer = nearer || fromFirst || fromSecond;
            }
            return nearer;
        }

        private boolean comeNearer(State state, int stile, boolean fromFirst) {
            if (state.isUnderRepair(stile) || !state.goes(stile, fromFirst)) {
                return false;
            }
            int hall = state.hallBehind(stile, fromFirst);
            int distance = at(distances, state.hallAhead(stile, fromFirst)) + 1;
            if (distance >= at(distances, hall)) {
                return false;
            }
            put(distances, hall, distance);
            return true;
        }
    }

    /** The text, and the order that was read from it last. */
    private static final class Script {
        private static final int FAULTY = -1;
        private static final int AT_ORDER = 0;
        private static final int BEHIND_STILE = 1;
        private static final int AT_NUMBER = 2;
        private static final int BEHIND_DIGIT = 3;
        private static final int BEHIND_ORDER = 4;

        private final int[] characters = new int[MOST_TEXT];
        private int length = 0;
        private int place = 0;
        private int orderStile = 0;
        private int orderKind = 0;
        private int orderNumber = 0;

        void addCharacter(int character) {
            put(characters, length, character);
            length++;
        }

        int findFault() {
            int where = AT_ORDER;
            for (int i = 0; i < length; i++) {
                where = whereBehind(where, at(characters, i));
                if (where == FAULTY) {
                    return i;
                }
            }
            return where == BEHIND_DIGIT || where == BEHIND_ORDER ? NONE : length;
        }

        private static int whereBehind(int where, int character) {
            switch (where) {
                case AT_ORDER:
                    if (character == 'h') {
                        return AT_NUMBER;
                    }
                    return isStileLetter(character) ? BEHIND_STILE : FAULTY;
                case BEHIND_STILE:
                    if (isWay(character)) {
                        return AT_NUMBER;
                    }
                    return character == 'a' || character == 'r' ? BEHIND_ORDER : FAULTY;
                case AT_NUMBER:
                    return isDigit(character) && character != '0' ? BEHIND_DIGIT : FAULTY;
                case BEHIND_DIGIT:
                    if (isDigit(character)) {
                        return BEHIND_ORDER;
                    }
                    return character == ',' ? AT_ORDER : FAULTY;
                default:
                    return character == ',' ? AT_ORDER : FAULTY;
            }
        }

        private static boolean isStileLetter(int character) {
            return character >= 'A' && character < 'A' + MOST_STILES;
        }

        private static boolean isWay(int character) {
            return character == '>' || character == '<';
        }

        private static boolean isDigit(int character) {
            return character >= '0' && character <= '9';
        }

        void goToBegin() {
            place = 0;
        }

        /** Reads the next order of a complete script; there is none behind the last one. */
        boolean readOrder() {
            if (place >= length) {
                return false;
            }
            orderKind = readCharacter();
            if (isStileLetter(orderKind)) {
                orderStile = orderKind - 'A';
                orderKind = readCharacter();
            }
            orderNumber = readNumber();
            // Steps over the comma.
            place++;
            return true;
        }

        private int readCharacter() {
            int character = nextCharacter();
            place++;
            return character;
        }

        /** Behind the text's end there may still be characters of an earlier text. */
        private int nextCharacter() {
            return place < length ? at(characters, place) : 0;
        }

        /** A number has two digits at most; where there is none, as behind "a", it is 0. */
        private int readNumber() {
            int number = 0;
            for (int digit = 0; digit < 2 && isDigit(nextCharacter()); digit++) {
                number = 10 * number + readCharacter() - '0';
            }
            return number;
        }
    }
}
