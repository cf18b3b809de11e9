/**
 * The edges that the document names under "Text" and of run: each test stands for one sentence,
 * which its comment tells.
 */
public final class EdgesOfTextTest {
    public static void main(String[] args) {
        theTextAtFirst();
        atMostSixtyCharacters();
        sixtyAgainBehindClearText();
        aStileIsALetterFromAToL();
        aNumberIsFrom1To99();
        aNumberHasNoLeadingZeros();
        ordersAndCommas();
        theFirstCharacterAtFault();
        noScriptOfAnyLength();
        theFaultOfABeginIsTheLength();
        letterLIsStile11();
        theSignsAreTheWays();
        theOrdersMeanTheMethods();
        nothingIsLeftOfAnEmptiedText();
        upToTheFirstErrorOfEachKind();
        runOfNoScript();
        runOfAllNumbersOfHours();
        oneActionEvenIfNoOrderIsCarriedOut();
        runOfAFullHistory();
        Checks.end();
    }

    private static void dueFault(String text, int want) {
        HallStiles x = new HallStiles();
        Checks.write(x, text);
        Checks.due("fault of \"" + text + "\"", x.fault(), want);
    }

    private static String many(String part, int times) {
        StringBuilder text = new StringBuilder();
        for (int i = 0; i < times; i++) {
            text.append(part);
        }
        return text.toString();
    }

    /** The text is empty at first; the empty text is no script, so its fault is its length. */
    private static void theTextAtFirst() {
        HallStiles x = new HallStiles();
        Checks.due("length", x.count(12), 0);
        Checks.due("fault", x.fault(), 0);
        Checks.due("run", x.run(), -100);
        Checks.due("clearText", x.clearText(), 0);
    }

    /** A text of at most 60 characters. */
    private static void atMostSixtyCharacters() {
        HallStiles x = new HallStiles();
        Checks.write(x, many("h", 59));
        Checks.due("the sixtieth", x.append('h'), 60);
        Checks.due("the sixty-first", x.append('h'), HallStiles.TOO_MANY);
        Checks.due("length", x.count(12), 60);
    }

    /** A full text that is emptied takes 60 characters anew. */
    private static void sixtyAgainBehindClearText() {
        HallStiles x = new HallStiles();
        Checks.write(x, many("h9,", 20));
        Checks.due("clearText", x.clearText(), 60);
        Checks.due("the first", x.append('h'), 1);
        Checks.write(x, many("1", 58));
        Checks.due("the sixtieth", x.append('1'), 60);
        Checks.due("the sixty-first", x.append('1'), HallStiles.TOO_MANY);
        Checks.due("fault", x.fault(), 3);
    }

    /** A stile is a letter from A to L. */
    private static void aStileIsALetterFromAToL() {
        for (char letter = 'A'; letter <= 'L'; letter++) {
            dueFault(letter + "a", HallStiles.NONE);
        }
        dueFault("@a", 0);
        dueFault("Ma", 0);
        dueFault("la", 0);
        dueFault("h1,Ma", 3);
    }

    /** A number is from 1 to 99. */
    private static void aNumberIsFrom1To99() {
        for (int number = 1; number <= 99; number++) {
            dueFault("h" + number, HallStiles.NONE);
            dueFault("A>" + number, HallStiles.NONE);
            dueFault("A<" + number, HallStiles.NONE);
        }
        dueFault("h0", 1);
        dueFault("h100", 3);
        dueFault("A>0", 2);
        dueFault("A<100", 4);
        dueFault("h-1", 1);
        dueFault("h+1", 1);
        dueFault("h 1", 1);
    }

    /** A number is without leading zeros, while it may end with one. */
    private static void aNumberHasNoLeadingZeros() {
        dueFault("h01", 1);
        dueFault("A>09", 2);
        dueFault("h10", HallStiles.NONE);
        dueFault("A>90", HallStiles.NONE);
        dueFault("h00", 1);
    }

    /** Order { "," order }: a comma is between two orders, neither first nor last nor twice. */
    private static void ordersAndCommas() {
        dueFault("Aa,Ar", HallStiles.NONE);
        dueFault(",Aa", 0);
        dueFault("Aa,", 3);
        dueFault("Aa,,Ar", 3);
        dueFault("AaAr", 2);
        dueFault("h1h1", 2);
        dueFault("h12h1", 3);
        dueFault("h1A>1", 2);
    }

    /** The first character such that no script begins with those up to and including it. */
    private static void theFirstCharacterAtFault() {
        dueFault("Aa,x,y", 3);
        dueFault("xAa", 0);
        dueFault("A>1x", 3);
        dueFault("A>12x", 4);
        dueFault("Axa", 1);
        dueFault("Aax", 2);
        dueFault(many("h99,", 14) + "h99x", 59);
        dueFault("x" + many("h", 59), 0);
    }

    /** No script, of any length: one that would be longer than a text begins with this one. */
    private static void noScriptOfAnyLength() {
        String[] ends = {"h99,", "Aa,A", "Aa,h", "h1,h", "A>1,"};
        for (String end : ends) {
            String text = many("h99,", 14) + end;
            dueFault(text, 60);
            HallStiles x = new HallStiles();
            Checks.write(x, text);
            Checks.due("run", x.run(), -160);
        }
    }

    /** If the text is not a complete script, the fault is the length of the text. */
    private static void theFaultOfABeginIsTheLength() {
        String script = "A>12,B<3,Ca,Dr,h45";
        int[] complete = {3, 4, 8, 11, 14, 17, 18};
        for (int length = 0; length <= script.length(); length++) {
            boolean isComplete = false;
            for (int end : complete) {
                isComplete |= end == length;
            }
            dueFault(script.substring(0, length), isComplete ? HallStiles.NONE : length);
        }
    }

    /** The letters stand for 0 to 11. */
    private static void letterLIsStile11() {
        HallStiles x = new HallStiles();
        x.room(1, 500);
        for (int stile = 0; stile < 12; stile++) {
            x.stile(0, 1);
        }
        Checks.write(x, "A>1,B>2,C>3,D>4,E>5,F>6,G>7,H>8,I>9,J>10,K>11,L>12");
        Checks.due("run", x.run(), 12);
        for (int stile = 0; stile < 12; stile++) {
            Checks.due("by stile " + stile, x.counter(stile, 0, 0), stile + 1);
        }
        Checks.rewrite(x, "Lr");
        Checks.due("run", x.run(), 1);
        Checks.due("repair", x.stileOf(11, 3), 6);
        Checks.due("no other repair", x.count(2), 1);
    }

    /** From the first hall to the second one (>) or from the second to the first (<). */
    private static void theSignsAreTheWays() {
        HallStiles x = new HallStiles();
        x.stile(0, 1);
        x.stile(2, 0);
        Checks.write(x, "A>99,B<98,A<97,B>96");
        Checks.due("run", x.run(), 4);
        Checks.due("hall 1", x.hall(1, 1), 2);
        Checks.due("hall 2", x.hall(2, 1), 2);
        Checks.due("out of the first hall", x.counter(0, 0, 0), 99);
        Checks.due("out of the second hall", x.counter(0, 2, 0), 97);
    }

    /** A audit of the stile, r repair of it, h hours pass. */
    private static void theOrdersMeanTheMethods() {
        HallStiles x = new HallStiles();
        x.stile(0, 1);
        x.slip(0, 3, 2);
        Checks.write(x, "A>10,Aa,A>4,Ar,h5");
        Checks.due("run", x.run(), 5);
        Checks.due("the gap behind the audit", x.stileOf(0, 4), 2);
        Checks.due("an hour of the repair yet", x.stileOf(0, 3), 1);
        Checks.due("clock", x.count(0), 5);
        Checks.rewrite(x, "h1,Aa");
        Checks.due("run", x.run(), 2);
        Checks.due("no gap", x.stileOf(0, 4), 0);
        Checks.due("no slip behind the repair", x.count(7), 0);
    }

    /** ClearText empties the text: a shorter one is not read on into what was there before. */
    private static void nothingIsLeftOfAnEmptiedText() {
        HallStiles x = new HallStiles();
        Checks.write(x, "h12,h3");
        Checks.rewrite(x, "h1");
        Checks.due("run", x.run(), 1);
        Checks.due("clock", x.count(0), 1);
        Checks.rewrite(x, "h");
        Checks.due("fault", x.fault(), 1);
    }

    /** Up to the first one for which the method would return an error code. */
    private static void upToTheFirstErrorOfEachKind() {
        // A has 20 people behind it, B is locked, C is under repair, and there is no D.
        String[] refused = {"A<21", "A>81", "B>1", "B<1", "C>1", "C<1", "Cr", "D>1", "D<1", "Da",
            "Dr"};
        for (String order : refused) {
            HallStiles x = new HallStiles();
            x.stile(0, 1);
            x.stile(0, 1);
            x.stile(0, 1);
            x.pass(0, true, 20);
            x.open(1, 3);
            x.repair(2);
            Checks.write(x, "h1," + order + ",h2");
            Checks.due("run with " + order, x.run(), 1);
            Checks.due("what went before stays", x.count(0), 1);
            Checks.due("nothing of it", x.count(3), 20);
        }
    }

    /** -100 minus the fault (an error code) if the text is not a complete script. */
    private static void runOfNoScript() {
        String[] texts = {"x", "A", "Ax", "A>", "A>0", "A>1,", "A>1,x", "A>100", "h1,h2,h"};
        int[] faults = {0, 1, 1, 2, 2, 4, 4, 4, 7};
        for (int i = 0; i < texts.length; i++) {
            HallStiles x = new HallStiles();
            x.stile(0, 1);
            Checks.write(x, texts[i]);
            Checks.due("run of " + texts[i], x.run(), -100 - faults[i]);
            Checks.due("nothing is carried out", x.count(3) + x.count(0), 0);
            Checks.due("nothing is recorded", x.count(11), 1);
        }
    }

    /** H hours pass, from 1 to 99. */
    private static void runOfAllNumbersOfHours() {
        HallStiles x = new HallStiles();
        int clock = 0;
        for (int number = 1; number <= 99; number++) {
            Checks.rewrite(x, "h" + number);
            Checks.due("run", x.run(), 1);
            clock += number;
            Checks.due("clock", x.count(0), clock);
        }
    }

    /** This is one action, even if no order is carried out. */
    private static void oneActionEvenIfNoOrderIsCarriedOut() {
        HallStiles x = new HallStiles();
        Checks.write(x, "Aa,h1,h1");
        Checks.due("run", x.run(), 0);
        Checks.due("recorded", x.count(11), 1);
        Checks.due("clock", x.count(0), 0);
        Checks.rewrite(x, "h1,h1,h1");
        Checks.due("run", x.run(), 3);
        Checks.due("recorded", x.count(11), 2);
        Checks.due("undo", x.undo(), 1);
        Checks.due("clock", x.count(0), 0);
    }

    /** One action drops one state of a full history, however many orders there are. */
    private static void runOfAFullHistory() {
        HallStiles x = new HallStiles();
        for (int hour = 0; hour < 5; hour++) {
            x.hours(1);
        }
        Checks.write(x, many("h1,", 19) + "h1");
        Checks.due("run", x.run(), 20);
        Checks.due("states", x.count(11), 5);
        for (int left = 4; left >= 0; left--) {
            Checks.due("undo", x.undo(), left);
            Checks.due("clock", x.count(0), left + 1);
        }
    }
}
