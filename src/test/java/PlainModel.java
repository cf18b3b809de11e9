import java.util.ArrayList;
import java.util.List;
import java.util.regex.Matcher;
import java.util.regex.Pattern;

/**
 * The document once more, as slowly and plainly as it can be said: people are counted one by one,
 * states are copied whole, distances are found by walking, scripts are read by a pattern. It
 * shares no line with HallStiles, so that a slip in the one is not a slip in the other.
 */
final class PlainModel {
    private static final Pattern SCRIPT;

    static {
        String number = "[1-9][0-9]?";
        String order = "(?:[A-L](?:[<>]" + number + "|a|r)|h" + number + ")";
        SCRIPT = Pattern.compile(order + "(?:," + order + ")*");
    }

    static final class Counter {
        int count;
        int slip;
        int sinceSet;
        int missed;

        Counter copy() {
            Counter c = new Counter();
            c.count = count;
            c.slip = slip;
            c.sinceSet = sinceSet;
            c.missed = missed;
            return c;
        }

        void seeOne() {
            sinceSet++;
            if (slip != 0 && sinceSet % slip == 0) {
                missed++;
            } else {
                count++;
            }
        }

        void setSlip(int value) {
            slip = value;
            sinceSet = 0;
        }
    }

    static final class Stile {
        int first;
        int second;
        int ways;
        int repair;
        Counter[] counters = {new Counter(), new Counter(), new Counter(), new Counter()};

        Stile copy() {
            Stile s = new Stile();
            s.first = first;
            s.second = second;
            s.ways = ways;
            s.repair = repair;
            for (int i = 0; i < 4; i++) {
                s.counters[i] = counters[i].copy();
            }
            return s;
        }

        /** Of the side 0 or 1, the counter of people who come in or go out. */
        Counter counter(int side, boolean comeIn) {
            return counters[2 * side + (comeIn ? 1 : 0)];
        }

        int gap() {
            int there = counter(0, false).count - counter(1, true).count;
            int back = counter(0, true).count - counter(1, false).count;
            return (there < 0 ? -there : there) + (back < 0 ? -back : back);
        }

        boolean leads(boolean fromFirst) {
            return repair == 0 && (ways == 0 || ways == 1 && fromFirst || ways == 2 && !fromFirst);
        }
    }

    static final class World {
        int[] room = {0, 100, 100, 100, 100, 100};
        int[] people = new int[6];
        List<Stile> stiles = new ArrayList<>();
        int rate = 30;
        int hours = 6;
        int clock;

        World copy() {
            World w = new World();
            w.room = room.clone();
            w.people = people.clone();
            for (Stile s : stiles) {
                w.stiles.add(s.copy());
            }
            w.rate = rate;
            w.hours = hours;
            w.clock = clock;
            return w;
        }

        int everybody() {
            return people[1] + people[2] + people[3] + people[4] + people[5];
        }

        int reason(Stile s, boolean fromFirst, int number) {
            int from = fromFirst ? s.first : s.second;
            int to = fromFirst ? s.second : s.first;
            if (s.repair > 0) {
                return 1;
            }
            if (s.ways == 3 || s.ways == 1 && !fromFirst || s.ways == 2 && fromFirst) {
                return 2;
            }
            if (from != 0 && people[from] < number) {
                return 3;
            }
            if (to != 0 && people[to] + number > room[to]) {
                return 4;
            }
            return 0;
        }

        int most(Stile s, boolean fromFirst) {
            int most = 0;
            for (int number = 1; number <= 99; number++) {
                if (reason(s, fromFirst, number) == 0) {
                    most = number;
                }
            }
            return most;
        }

        void passOne(Stile s, boolean fromFirst) {
            int from = fromFirst ? s.first : s.second;
            int to = fromFirst ? s.second : s.first;
            if (from != 0) {
                people[from]--;
            }
            if (to != 0) {
                people[to]++;
            }
            s.counter(fromFirst ? 0 : 1, false).seeOne();
            s.counter(fromFirst ? 1 : 0, true).seeOne();
        }

        void pass(Stile s, boolean fromFirst, int number) {
            for (int i = 0; i < number; i++) {
                passOne(s, fromFirst);
            }
        }

        void audit(Stile s) {
            int there = Math.max(s.counters[0].count, s.counters[3].count);
            int back = Math.max(s.counters[1].count, s.counters[2].count);
            s.counters[0].count = there;
            s.counters[3].count = there;
            s.counters[1].count = back;
            s.counters[2].count = back;
        }

        int hour() {
            int over = 0;
            clock++;
            for (Stile s : stiles) {
                if (s.repair == 1) {
                    over++;
                    for (Counter c : s.counters) {
                        c.setSlip(0);
                    }
                }
                s.repair = Math.max(0, s.repair - 1);
            }
            return over;
        }

        /** -1 if there is no way. */
        int distance(int hall) {
            boolean[] reached = new boolean[6];
            reached[hall] = true;
            for (int steps = 0; steps <= 6; steps++) {
                if (reached[0]) {
                    return steps;
                }
                boolean[] further = reached.clone();
                for (Stile s : stiles) {
                    if (reached[s.first] && s.leads(true)) {
                        further[s.second] = true;
                    }
                    if (reached[s.second] && s.leads(false)) {
                        further[s.first] = true;
                    }
                }
                reached = further;
            }
            return -1;
        }

        int closingHour() {
            int[] distances = new int[6];
            for (int hall = 0; hall < 6; hall++) {
                distances[hall] = distance(hall);
            }
            int passed = 0;
            for (Stile s : stiles) {
                for (int direction = 0; direction < 2; direction++) {
                    boolean fromFirst = direction == 0;
                    int here = distances[fromFirst ? s.first : s.second];
                    int there = distances[fromFirst ? s.second : s.first];
                    if (here < 0 || there < 0 || here != there + 1) {
                        continue;
                    }
                    for (int i = 0; i < rate && reason(s, fromFirst, 1) == 0; i++) {
                        passOne(s, fromFirst);
                        passed++;
                    }
                }
            }
            hour();
            return passed;
        }

        int told(int hall, boolean own) {
            int told = 0;
            for (Stile s : stiles) {
                for (int side = 0; side < 2; side++) {
                    if ((side == 0 ? s.first : s.second) == hall) {
                        if (own) {
                            told += s.counter(side, true).count - s.counter(side, false).count;
                        } else {
                            told += s.counter(1 - side, false).count;
                            told -= s.counter(1 - side, true).count;
                        }
                    }
                }
            }
            return told;
        }
    }

    private World world = new World();
    private World snapshot = null;
    private final List<World> history = new ArrayList<>();
    private String text = "";

    private void record() {
        history.add(world.copy());
        if (history.size() == 6) {
            history.remove(0);
        }
    }

    private Stile find(int stile) {
        return stile >= 0 && stile < world.stiles.size() ? world.stiles.get(stile) : null;
    }

    int stile(int first, int second) {
        if (first < 0 || first > 5 || second < 0 || second > 5) {
            return HallStiles.NO_SUCH;
        }
        if (first == second) {
            return HallStiles.BAD_VALUE;
        }
        if (world.stiles.size() == 12) {
            return HallStiles.TOO_MANY;
        }
        record();
        Stile s = new Stile();
        s.first = first;
        s.second = second;
        world.stiles.add(s);
        return world.stiles.size() - 1;
    }

    int open(int stile, int ways) {
        Stile s = find(stile);
        if (s == null) {
            return HallStiles.NO_SUCH;
        }
        if (ways < 0 || ways > 3) {
            return HallStiles.BAD_VALUE;
        }
        record();
        int previous = s.ways;
        s.ways = ways;
        return previous;
    }

    int room(int hall, int room) {
        if (hall < 1 || hall > 5) {
            return HallStiles.NO_SUCH;
        }
        if (room < 1 || room > 500) {
            return HallStiles.BAD_VALUE;
        }
        if (world.people[hall] > room) {
            return HallStiles.NOT_POSSIBLE;
        }
        record();
        int previous = world.room[hall];
        world.room[hall] = room;
        return previous;
    }

    int slip(int stile, int counter, int slip) {
        Stile s = find(stile);
        if (s == null) {
            return HallStiles.NO_SUCH;
        }
        if (counter < 0 || counter > 3 || slip < 0 || slip == 1 || slip > 9) {
            return HallStiles.BAD_VALUE;
        }
        record();
        int previous = s.counters[counter].slip;
        s.counters[counter].setSlip(slip);
        return previous;
    }

    int pass(int stile, boolean fromFirst, int people) {
        int reason = reason(stile, fromFirst, people);
        if (reason < 0) {
            return reason;
        }
        if (reason > 0) {
            return -10 - reason;
        }
        record();
        Stile s = find(stile);
        world.pass(s, fromFirst, people);
        return s.gap();
    }

    int audit(int stile) {
        Stile s = find(stile);
        if (s == null) {
            return HallStiles.NO_SUCH;
        }
        record();
        int gap = s.gap();
        world.audit(s);
        return gap;
    }

    int repair(int stile) {
        Stile s = find(stile);
        if (s == null) {
            return HallStiles.NO_SUCH;
        }
        if (s.repair > 0) {
            return HallStiles.NOT_POSSIBLE;
        }
        record();
        s.repair = world.hours;
        return world.clock + world.hours;
    }

    int hours(int many) {
        if (many < 1 || many > 99) {
            return HallStiles.BAD_VALUE;
        }
        record();
        int over = 0;
        for (int i = 0; i < many; i++) {
            over += world.hour();
        }
        return over;
    }

    int close(int many) {
        if (many < 1 || many > 99) {
            return HallStiles.BAD_VALUE;
        }
        record();
        for (int i = 0; i < many; i++) {
            if (world.closingHour() == 0) {
                break;
            }
        }
        return world.everybody();
    }

    int set(int setting, int value) {
        if (setting != 0 && setting != 1) {
            return HallStiles.NO_SUCH;
        }
        if (value < 1 || setting == 0 && value > 99 || setting == 1 && value > 48) {
            return HallStiles.BAD_VALUE;
        }
        record();
        int previous;
        if (setting == 0) {
            previous = world.rate;
            world.rate = value;
        } else {
            previous = world.hours;
            world.hours = value;
        }
        return previous;
    }

    int append(int character) {
        if (character < 32 || character > 126) {
            return HallStiles.BAD_VALUE;
        }
        if (text.length() == 60) {
            return HallStiles.TOO_MANY;
        }
        text += (char) character;
        return text.length();
    }

    int clearText() {
        int length = text.length();
        text = "";
        return length;
    }

    /** A begin of a script is what the pattern matches, or would match if more came. */
    int fault() {
        if (SCRIPT.matcher(text).matches()) {
            return HallStiles.NONE;
        }
        for (int i = 0; i < text.length(); i++) {
            Matcher m = SCRIPT.matcher(text.substring(0, i + 1));
            if (!m.matches() && !m.hitEnd()) {
                return i;
            }
        }
        return text.length();
    }

    int run() {
        int fault = fault();
        if (fault != HallStiles.NONE) {
            return -100 - fault;
        }
        record();
        List<World> kept = new ArrayList<>(history);
        int done = 0;
        for (String order : text.split(",")) {
            if (isError(carryOut(order))) {
                break;
            }
            done++;
        }
        history.clear();
        history.addAll(kept);
        return done;
    }

    private int carryOut(String order) {
        if (order.charAt(0) == 'h') {
            return hours(Integer.parseInt(order.substring(1)));
        }
        int stile = "ABCDEFGHIJKL".indexOf(order.charAt(0));
        String rest = order.substring(1);
        if (rest.equals("a")) {
            return audit(stile);
        }
        if (rest.equals("r")) {
            return repair(stile);
        }
        return pass(stile, rest.charAt(0) == '>', Integer.parseInt(rest.substring(1)));
    }

    private static boolean isError(int answer) {
        return answer < 0;
    }

    int undo() {
        if (history.isEmpty()) {
            return HallStiles.NONE;
        }
        world = history.remove(history.size() - 1);
        return history.size();
    }

    int save() {
        snapshot = world.copy();
        return world.everybody();
    }

    int restore() {
        if (snapshot == null) {
            return HallStiles.NOT_POSSIBLE;
        }
        record();
        world = snapshot.copy();
        return world.everybody();
    }

    int hall(int hall, int what) {
        if (hall < 1 || hall > 5) {
            return HallStiles.NO_SUCH;
        }
        if (what < 0 || what > 5) {
            return HallStiles.BAD_VALUE;
        }
        int stiles = 0;
        for (Stile s : world.stiles) {
            stiles += s.first == hall || s.second == hall ? 1 : 0;
        }
        int distance = world.distance(hall);
        int[] answers = {world.room[hall], world.people[hall], world.told(hall, true),
            world.told(hall, false), distance < 0 ? HallStiles.NONE : distance, stiles};
        return answers[what];
    }

    int stileOf(int stile, int what) {
        Stile s = find(stile);
        if (s == null) {
            return HallStiles.NO_SUCH;
        }
        if (what < 0 || what > 4) {
            return HallStiles.BAD_VALUE;
        }
        int[] answers = {s.first, s.second, s.ways, s.repair, s.gap()};
        return answers[what];
    }

    int counter(int stile, int counter, int what) {
        Stile s = find(stile);
        if (s == null) {
            return HallStiles.NO_SUCH;
        }
        if (counter < 0 || counter > 3 || what < 0 || what > 2) {
            return HallStiles.BAD_VALUE;
        }
        Counter c = s.counters[counter];
        int[] answers = {c.count, c.slip, c.missed};
        return answers[what];
    }

    int reason(int stile, boolean fromFirst, int people) {
        Stile s = find(stile);
        if (s == null) {
            return HallStiles.NO_SUCH;
        }
        if (people < 1 || people > 99) {
            return HallStiles.BAD_VALUE;
        }
        return world.reason(s, fromFirst, people);
    }

    int worst(int rank) {
        if (rank < 0) {
            return HallStiles.BAD_VALUE;
        }
        List<Integer> order = new ArrayList<>();
        for (int i = 0; i < world.stiles.size(); i++) {
            if (find(i).gap() > 0) {
                order.add(i);
            }
        }
        order.sort((a, b) -> find(a).gap() != find(b).gap()
                ? Integer.compare(find(b).gap(), find(a).gap()) : Integer.compare(a, b));
        return rank < order.size() ? order.get(rank) : HallStiles.NONE;
    }

    int count(int what) {
        if (what < 0 || what > 12) {
            return HallStiles.BAD_VALUE;
        }
        int repairs = 0;
        int gaps = 0;
        int slips = 0;
        for (Stile s : world.stiles) {
            repairs += s.repair > 0 ? 1 : 0;
            gaps += s.gap();
            for (Counter c : s.counters) {
                slips += c.slip > 0 ? 1 : 0;
            }
        }
        int own = 0;
        int far = 0;
        int fullest = 5;
        for (int hall = 5; hall >= 1; hall--) {
            own += world.told(hall, true);
            far += world.told(hall, false);
            if (world.room[hall] - world.people[hall]
                    <= world.room[fullest] - world.people[fullest]) {
                fullest = hall;
            }
        }
        int[] answers = {world.clock, world.stiles.size(), repairs, world.everybody(), own, far,
            gaps, slips, fullest, world.rate, world.hours, history.size(), text.length()};
        return answers[what];
    }

    int most(int stile, boolean fromFirst) {
        Stile s = find(stile);
        return s == null ? HallStiles.NO_SUCH : world.most(s, fromFirst);
    }

    int emptyIn() {
        World trial = world.copy();
        for (int hours = 0; hours <= 300; hours++) {
            if (trial.everybody() == 0) {
                return hours;
            }
            trial.closingHour();
        }
        return HallStiles.NONE;
    }

    int leftWithout(int stile, int many) {
        if (find(stile) == null) {
            return HallStiles.NO_SUCH;
        }
        if (many < 1 || many > 99) {
            return HallStiles.BAD_VALUE;
        }
        World trial = world.copy();
        trial.stiles.get(stile).ways = 3;
        for (int i = 0; i < many; i++) {
            trial.closingHour();
        }
        return trial.everybody();
    }

    double fullness() {
        double people = world.everybody();
        double rooms = world.room[1] + world.room[2] + world.room[3] + world.room[4] + world.room[5];
        return people / rooms;
    }
}
