import java.util.Random;

/**
 * Runs of calls drawn from fixed seeds, each call put to HallStiles and to the plain model: both
 * must answer the same. It covers all promises together, in states that nobody thought of.
 */
public final class PlainModelTest {
    private static final int RUNS = 600;
    private static final int MOST_CALLS = 512;
    private static final int CALLS_OF_A_LOOK = 13 + 5 * 6 + 12 * (5 + 4 * 3) + 4;

    private final Random random;
    private final int manyStiles;
    private final int mostPeople;
    private final HallStiles real = new HallStiles();
    private final PlainModel plain = new PlainModel();
    private final StringBuilder calls = new StringBuilder();
    private int called = 0;

    private PlainModelTest(int seed) {
        random = new Random(seed);
        manyStiles = 1 + random.nextInt(12);
        mostPeople = random.nextBoolean() ? 99 : 12;
    }

    public static void main(String[] args) {
        for (int seed = 0; seed < RUNS; seed++) {
            new PlainModelTest(seed).oneRun(seed);
        }
        Checks.end();
    }

    private void oneRun(int seed) {
        for (int i = 0; i < manyStiles; i++) {
            int first = random.nextInt(6);
            int second = (first + 1 + random.nextInt(5)) % 6;
            due(seed, "stile(" + first + ", " + second + ")", real.stile(first, second),
                    plain.stile(first, second));
        }
        while (called < MOST_CALLS - CALLS_OF_A_LOOK) {
            anyCall(seed);
        }
        lookAtAll(seed);
    }

    private void due(int seed, String call, double got, double want) {
        called++;
        calls.append(call).append("; ");
        if (got != want) {
            Checks.isTrue("seed " + seed + ": " + calls + " answered " + got + ", plain " + want,
                    false);
        } else {
            Checks.isTrue(call, true);
        }
    }

    /** Mostly a stile that is there. */
    private int someStile() {
        return random.nextInt(12) == 0 ? random.nextInt(15) - 1 : random.nextInt(manyStiles);
    }

    private int some(int least, int most) {
        return least + random.nextInt(most - least + 1);
    }

    private void anyCall(int seed) {
        int kind = random.nextInt(100);
        if (kind < 22) {
            pass(seed);
        } else if (kind < 70) {
            anyAction(seed, kind);
        } else if (kind < 78) {
            script(seed);
        } else {
            anyQuestion(seed, random.nextInt(10));
        }
    }

    private void pass(int seed) {
        int stile = someStile();
        boolean fromFirst = random.nextBoolean();
        int people = some(0, mostPeople + 1);
        due(seed, "pass(" + stile + ", " + fromFirst + ", " + people + ")",
                real.pass(stile, fromFirst, people), plain.pass(stile, fromFirst, people));
    }

    private void anyAction(int seed, int kind) {
        int a = someStile();
        int b = some(-1, 4);
        int c = some(0, 10);
        if (kind < 25) {
            due(seed, "open(" + a + ", " + b + ")", real.open(a, b), plain.open(a, b));
        } else if (kind < 28) {
            int hall = some(0, 6);
            int room = random.nextInt(4) == 0 ? some(-1, 502) : some(1, 150);
            due(seed, "room(" + hall + ", " + room + ")", real.room(hall, room),
                    plain.room(hall, room));
        } else if (kind < 38) {
            due(seed, "slip(" + a + ", " + b + ", " + c + ")", real.slip(a, b, c),
                    plain.slip(a, b, c));
        } else if (kind < 41) {
            due(seed, "audit(" + a + ")", real.audit(a), plain.audit(a));
        } else if (kind < 46) {
            due(seed, "repair(" + a + ")", real.repair(a), plain.repair(a));
        } else if (kind < 51) {
            int many = random.nextInt(5) == 0 ? some(0, 100) : some(1, 4);
            due(seed, "hours(" + many + ")", real.hours(many), plain.hours(many));
        } else if (kind < 54) {
            int many = random.nextInt(5) == 0 ? some(0, 100) : some(1, 3);
            due(seed, "close(" + many + ")", real.close(many), plain.close(many));
        } else if (kind < 57) {
            int setting = some(-1, 2);
            int value = random.nextInt(4) == 0 ? some(0, 100) : some(1, 12);
            due(seed, "set(" + setting + ", " + value + ")", real.set(setting, value),
                    plain.set(setting, value));
        } else if (kind < 63) {
            due(seed, "undo()", real.undo(), plain.undo());
        } else if (kind < 66) {
            due(seed, "save()", real.save(), plain.save());
        } else if (kind < 68) {
            due(seed, "restore()", real.restore(), plain.restore());
        } else {
            int first = some(-1, 6);
            int second = some(-1, 6);
            due(seed, "stile(" + first + ", " + second + ")", real.stile(first, second),
                    plain.stile(first, second));
        }
    }

    private void script(int seed) {
        if (called + 30 > MOST_CALLS - CALLS_OF_A_LOOK) {
            return;
        }
        if (random.nextInt(3) > 0) {
            due(seed, "clearText()", real.clearText(), plain.clearText());
        }
        String more = someOrders();
        for (int i = 0; i < more.length() && i < 24; i++) {
            int character = more.charAt(i);
            due(seed, "append(" + character + ")", real.append(character),
                    plain.append(character));
        }
        due(seed, "fault()", real.fault(), plain.fault());
        due(seed, "run()", real.run(), plain.run());
    }

    private String someOrders() {
        StringBuilder orders = new StringBuilder();
        int many = some(1, 6);
        for (int i = 0; i < many; i++) {
            orders.append(i == 0 ? "" : ",");
            char stile = (char) ('A' + random.nextInt(random.nextInt(9) == 0 ? 13 : manyStiles));
            int number = some(1, random.nextInt(4) == 0 ? 100 : 20);
            String[] kinds = {stile + ">" + number, stile + ">" + number, stile + "<" + number,
                stile + "<" + number, stile + "a", stile + "r", "h" + some(1, 12)};
            orders.append(kinds[random.nextInt(kinds.length)]);
        }
        if (random.nextInt(4) == 0) {
            String signs = "ALMahr<>,0159 ~";
            orders.setCharAt(random.nextInt(orders.length()),
                    signs.charAt(random.nextInt(signs.length())));
        }
        return orders.toString();
    }

    private void anyQuestion(int seed, int kind) {
        int stile = someStile();
        boolean fromFirst = random.nextBoolean();
        int what = some(-1, 13);
        switch (kind) {
            case 0:
                due(seed, "hall(" + stile + ", " + what / 2 + ")", real.hall(stile, what / 2),
                        plain.hall(stile, what / 2));
                break;
            case 1:
                due(seed, "stileOf(" + stile + ", " + what / 2 + ")",
                        real.stileOf(stile, what / 2), plain.stileOf(stile, what / 2));
                break;
            case 2:
                int counter = some(-1, 4);
                due(seed, "counter(" + stile + ", " + counter + ", " + what / 4 + ")",
                        real.counter(stile, counter, what / 4),
                        plain.counter(stile, counter, what / 4));
                break;
            case 3:
                int people = some(0, 100);
                due(seed, "reason(" + stile + ", " + fromFirst + ", " + people + ")",
                        real.reason(stile, fromFirst, people),
                        plain.reason(stile, fromFirst, people));
                break;
            case 4:
                due(seed, "worst(" + what / 3 + ")", real.worst(what / 3), plain.worst(what / 3));
                break;
            case 5:
                due(seed, "count(" + what + ")", real.count(what), plain.count(what));
                break;
            case 6:
                due(seed, "most(" + stile + ", " + fromFirst + ")", real.most(stile, fromFirst),
                        plain.most(stile, fromFirst));
                break;
            case 7:
                due(seed, "emptyIn()", real.emptyIn(), plain.emptyIn());
                break;
            case 8:
                int many = random.nextBoolean() ? some(0, 100) : some(1, 9);
                due(seed, "leftWithout(" + stile + ", " + many + ")",
                        real.leftWithout(stile, many), plain.leftWithout(stile, many));
                break;
            default:
                due(seed, "fullness()", real.fullness(), plain.fullness());
                break;
        }
    }

    private void lookAtAll(int seed) {
        for (int what = 0; what <= 12; what++) {
            due(seed, "count(" + what + ")", real.count(what), plain.count(what));
        }
        for (int hall = 1; hall <= 5; hall++) {
            for (int what = 0; what <= 5; what++) {
                due(seed, "hall(" + hall + ", " + what + ")", real.hall(hall, what),
                        plain.hall(hall, what));
            }
        }
        for (int stile = 0; stile < 12; stile++) {
            for (int what = 0; what <= 4; what++) {
                due(seed, "stileOf(" + stile + ", " + what + ")", real.stileOf(stile, what),
                        plain.stileOf(stile, what));
            }
            for (int counter = 0; counter < 4; counter++) {
                for (int what = 0; what <= 2; what++) {
                    due(seed, "counter(" + stile + ", " + counter + ", " + what + ")",
                            real.counter(stile, counter, what),
                            plain.counter(stile, counter, what));
                }
            }
        }
        due(seed, "worst(1)", real.worst(1), plain.worst(1));
        due(seed, "emptyIn()", real.emptyIn(), plain.emptyIn());
        due(seed, "fullness()", real.fullness(), plain.fullness());
        due(seed, "fault()", real.fault(), plain.fault());
    }
}
