/** Writes down what can be seen of an object, so that two looks can be held against each other. */
final class Look {
    private Look() {
    }

    /** All of the state that a question tells; the text, the history and the snapshot left out. */
    static String atState(HallStiles x) {
        StringBuilder text = new StringBuilder();
        for (int what = 0; what <= 10; what++) {
            text.append(x.count(what)).append(' ');
        }
        for (int hall = 1; hall <= 5; hall++) {
            for (int what = 0; what <= 5; what++) {
                text.append(x.hall(hall, what)).append(' ');
            }
        }
        for (int stile = 0; stile < 12; stile++) {
            for (int what = 0; what <= 4; what++) {
                text.append(x.stileOf(stile, what)).append(' ');
            }
            for (int k = 0; k < 12; k++) {
                text.append(x.counter(stile, k / 3, k % 3)).append(' ');
            }
        }
        return text.toString();
    }

    /** What the questions tell of the text and of the history. */
    static String atRest(HallStiles x) {
        return x.count(11) + " " + x.count(12) + " " + x.fault();
    }

    /** The text, each state of the history, and the snapshot. The object is used up by it. */
    static String behind(HallStiles x) {
        StringBuilder text = new StringBuilder(atState(x));
        text.append(atRest(x)).append(" run ").append(x.run()).append(' ').append(atState(x));
        for (int i = 0; i < 6; i++) {
            text.append(" undo ").append(x.undo()).append(' ').append(atState(x));
        }
        return text.append(" restore ").append(x.restore()).append(' ').append(atState(x))
                .toString();
    }

    /** What the slips have seen, as it shows when people go on. The object is used up by it. */
    static String ahead(HallStiles x) {
        StringBuilder text = new StringBuilder(atState(x));
        for (int stile = 0; stile < 12; stile++) {
            for (int people = 0; people < 9; people++) {
                text.append(' ').append(x.pass(stile, true, 1));
                text.append(' ').append(x.pass(stile, false, 1));
            }
        }
        return text.append(' ').append(atState(x)).toString();
    }
}
