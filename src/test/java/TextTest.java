/** Promises 12 to 15: append, clearText, fault, run. */
public final class TextTest {
    public static void main(String[] args) {
        append();
        clearText();
        completeScripts();
        beginsOfScripts();
        faults();
        faultOfLongTexts();
        faultOfEachCharacter();
        runNeedsAScript();
        runCarriesOutOrders();
        runStopsAtAnError();
        runIsOneAction();
        runForgetsEarlierTexts();
        runOfTheLongestText();
        Checks.end();
    }

    private static void append() {
        HallStiles x = new HallStiles();
        int[] bad = {-1, 0, 31, 127, 128, Integer.MIN_VALUE, Integer.MAX_VALUE};
        for (int character : bad) {
            Checks.due("append(" + character + ")", x.append(character), HallStiles.BAD_VALUE);
        }
        Checks.due("length", x.count(12), 0);
        Checks.due("append(32)", x.append(32), 1);
        Checks.due("append(126)", x.append(126), 2);
        for (int length = 3; length <= 60; length++) {
            Checks.due("append", x.append('A'), length);
        }
        Checks.due("a sixty-first", x.append('A'), HallStiles.TOO_MANY);
        Checks.due("a bad sixty-first", x.append(31), HallStiles.BAD_VALUE);
        Checks.due("length", x.count(12), 60);
        Checks.due("no action", x.count(11), 0);
    }

    private static void clearText() {
        HallStiles x = new HallStiles();
        Checks.due("clearText of nothing", x.clearText(), 0);
        Checks.write(x, "h12");
        Checks.due("clearText", x.clearText(), 3);
        Checks.due("length", x.count(12), 0);
        Checks.due("clearText again", x.clearText(), 0);
        Checks.due("fault of nothing", x.fault(), 0);
        Checks.due("no action", x.count(11), 0);
        Checks.due("append", x.append('h'), 1);
    }

    private static void dueFault(String text, int want) {
        HallStiles x = new HallStiles();
        Checks.write(x, text);
        Checks.due("fault of \"" + text + "\"", x.fault(), want);
    }

    private static void completeScripts() {
        String[] texts = {"A>1", "L<99", "h1", "h99", "Aa", "Lr", "A>10", "h9,h10", "Aa,Br,C>5,D<50,h7",
            "A<9,A<90,A<1", "h1,Aa,h1"};
        for (String text : texts) {
            dueFault(text, HallStiles.NONE);
        }
    }

    private static void beginsOfScripts() {
        String[] texts = {"", "A", "L", "h", "A>", "A<", "A>1,", "h1,", "h10,A", "Aa,", "Aa,h", "A>99,B<"};
        for (String text : texts) {
            dueFault(text, text.length());
        }
    }

    private static void faults() {
        dueFault("M", 0);
        dueFault("a", 0);
        dueFault("@", 0);
        dueFault("H1", 1);
        dueFault("1", 0);
        dueFault(",", 0);
        dueFault(" ", 0);
        dueFault("A>0", 2);
        dueFault("A>01", 2);
        dueFault("A>100", 4);
        dueFault("A>1a", 3);
        dueFault("A>10,,", 5);
        dueFault("A,", 1);
        dueFault("AA", 1);
        dueFault("AR", 1);
        dueFault("Ah", 1);
        dueFault("A=1", 1);
        dueFault("A>>", 2);
        dueFault("A>,", 2);
        dueFault("Aa1", 2);
        dueFault("Ar>1", 2);
        dueFault("h>1", 1);
        dueFault("h,", 1);
        dueFault("h0", 1);
        dueFault("h123", 3);
        dueFault("ha", 1);
        dueFault("Aa,m", 3);
        dueFault("A>1 ", 3);
        dueFault(" A>1", 0);
    }

    private static void faultOfLongTexts() {
        // 15 orders "h99," have 60 characters: a script begins so, though none has room here.
        StringBuilder text = new StringBuilder();
        for (int i = 0; i < 15; i++) {
            text.append("h99,");
        }
        dueFault(text.toString(), 60);
        text.setCharAt(59, '9');
        dueFault(text.toString(), 59);
    }

    /** Every character behind every kind of begin, against the grammar as a table. */
    private static void faultOfEachCharacter() {
        String[] begins = {"", "A", "A>", "A>1", "A>12", "Aa", "h", "h1", "h10", "h1,"};
        String[] goOn = {"ABCDEFGHIJKLh", "><ar", "123456789", "0123456789,", ",", ",", "123456789",
            "0123456789,", ",", "ABCDEFGHIJKLh"};
        for (int i = 0; i < begins.length; i++) {
            for (int character = 32; character <= 126; character++) {
                HallStiles x = new HallStiles();
                Checks.write(x, begins[i]);
                x.append(character);
                boolean fits = goOn[i].indexOf(character) >= 0;
                int fault = x.fault();
                boolean atIt = fault == begins[i].length();
                Checks.isTrue("fault of \"" + begins[i] + (char) character + "\" is " + fault,
                        atIt != fits);
            }
        }
    }

    private static void runNeedsAScript() {
        HallStiles x = new HallStiles();
        x.stile(0, 1);
        Checks.due("run of nothing", x.run(), -100);
        Checks.write(x, "A>5,");
        Checks.due("run of a begin", x.run(), -104);
        Checks.rewrite(x, "A>5,x");
        Checks.due("run of a faulty text", x.run(), -104);
        Checks.due("nobody passed", x.count(3), 0);
        Checks.due("states", x.count(11), 1);
    }

    private static void runCarriesOutOrders() {
        HallStiles x = new HallStiles();
        x.stile(0, 1);
        x.stile(2, 1);
        x.slip(0, 3, 2);
        Checks.write(x, "A>40,B<25,B>5,A<2,h10,Br,h4");
        Checks.due("run", x.run(), 7);
        Checks.due("hall 1", x.hall(1, 1), 18);
        Checks.due("hall 2", x.hall(2, 1), 20);
        Checks.due("clock", x.count(0), 14);
        Checks.due("repair", x.stileOf(1, 3), 2);
        Checks.due("gap", x.stileOf(0, 4), 20);
        Checks.due("the text stays", x.count(12), 27);
        Checks.rewrite(x, "Aa");
        Checks.due("audit", x.run(), 1);
        Checks.due("gap", x.stileOf(0, 4), 0);
    }

    private static void runStopsAtAnError() {
        HallStiles x = new HallStiles();
        x.stile(0, 1);
        String[] texts = {"h1,B>1,h1", "h1,Ba,h1", "h1,Lr,h1", "h1,A<99,h1", "h1,Ar,Ar,h1"};
        int[] carriedOut = {1, 1, 1, 1, 2};
        for (int i = 0; i < texts.length; i++) {
            Checks.rewrite(x, texts[i]);
            Checks.due("run of " + texts[i], x.run(), carriedOut[i]);
            Checks.due("clock", x.count(0), i + 1);
        }
        Checks.rewrite(x, "A>99,A>99,A>1");
        x.hours(6);
        Checks.due("no room for the second", x.run(), 1);
        Checks.due("hall 1", x.hall(1, 1), 99);
    }

    private static void runIsOneAction() {
        HallStiles x = new HallStiles();
        Checks.write(x, "A>5,A>6,h3");
        Checks.due("no order is carried out", x.run(), 0);
        Checks.due("it is recorded", x.count(11), 1);
        x.stile(0, 1);
        Checks.due("run", x.run(), 3);
        Checks.due("states", x.count(11), 3);
        Checks.due("undo takes all orders back", x.undo(), 2);
        Checks.due("people", x.count(3), 0);
        Checks.due("clock", x.count(0), 0);
        Checks.due("the text stays", x.count(12), 10);
        Checks.due("run again", x.run(), 3);
        Checks.due("people", x.count(3), 11);
    }

    private static void runForgetsEarlierTexts() {
        HallStiles x = new HallStiles();
        x.stile(0, 1);
        Checks.write(x, "A>11,A>11");
        Checks.rewrite(x, "A>1");
        Checks.due("run", x.run(), 1);
        Checks.due("people", x.count(3), 1);
        Checks.rewrite(x, "h99");
        Checks.rewrite(x, "h9");
        Checks.due("run", x.run(), 1);
        Checks.due("clock", x.count(0), 9);
    }

    private static void runOfTheLongestText() {
        HallStiles x = new HallStiles();
        StringBuilder text = new StringBuilder("h99");
        for (int i = 0; i < 19; i++) {
            text.append(",Aa");
        }
        Checks.write(x, text.toString());
        Checks.due("length", x.count(12), 60);
        Checks.due("fault", x.fault(), HallStiles.NONE);
        Checks.due("one order before the stile that is not there", x.run(), 1);
        x.stile(0, 1);
        Checks.due("20 orders", x.run(), 20);
        Checks.due("clock", x.count(0), 198);
    }
}
