/** Compares answers with those that are due, and ends the machine with 1 if one was wrong. */
final class Checks {
    private static int wrong = 0;
    private static int right = 0;

    private Checks() {
    }

    static void due(String call, long got, long want) {
        isTrue(call + " answered " + got + ", due is " + want, got == want);
    }

    static void dueDouble(String call, double got, double want) {
        isTrue(call + " answered " + got + ", due is " + want, got == want);
    }

    static void isTrue(String complaint, boolean holds) {
        if (holds) {
            right++;
        } else {
            wrong++;
            if (wrong <= 40) {
                System.out.println("  wrong: " + complaint);
            }
        }
    }

    /** Puts a text in, as so many calls of append. */
    static void write(HallStiles x, String text) {
        for (int i = 0; i < text.length(); i++) {
            x.append(text.charAt(i));
        }
    }

    /** Puts a text in the place of the one there is. */
    static void rewrite(HallStiles x, String text) {
        x.clearText();
        write(x, text);
    }

    static void end() {
        System.out.println("  " + right + " answers as due, " + wrong + " not");
        if (wrong > 0) {
            System.exit(1);
        }
    }
}
