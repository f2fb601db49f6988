/** Makes houses for tests, and reads out what they answer. */
final class Houses {
    static final int NONE = SlipHouse.NONE;

    /** Calls that change a house (or are refused). */
    interface Calls {
        void on(SlipHouse house);
    }

    private Houses() {
    }

    /** Feeds letters, with zero bytes behind them up to twenty. */
    static int feed(SlipHouse house, String letters) {
        int[] fours = new int[5];
        for (int i = 0; i < letters.length(); i++) {
            fours[i / 4] |= (letters.charAt(i) & 255) << (24 - 8 * (i % 4));
        }
        return house.feed(fours[0], fours[1], fours[2], fours[3], fours[4]);
    }

    static int slip(SlipHouse house, int book, String word) {
        feed(house, word);
        return house.slip(book, word.length());
    }

    static int entry(SlipHouse house, String head, int from, int to) {
        feed(house, head);
        return house.entry(head.length(), from, to);
    }

    static int form(SlipHouse house, int e, String word, int from, int to) {
        feed(house, word);
        return house.form(e, word.length(), from, to);
    }

    static int rule(SlipHouse house, String old, String fresh) {
        feed(house, old + fresh);
        return house.rule(old.length(), fresh.length());
    }

    /** A slip that stands in a sense of entry e from the start. */
    static int slipIn(SlipHouse house, int book, int e, int t) {
        int s = slip(house, book, "x");
        house.put(s, e, t);
        return s;
    }

    static String printed(SlipHouse house, int e) {
        int length = house.print(e);
        StringBuilder text = new StringBuilder();
        for (int i = 0; i < length; i++) {
            text.append((char) house.octet(i));
        }
        return text.toString();
    }

    /** Whether a call on a house so made is refused, and changes nothing but, where told, the tape. */
    static void refused(String what, Calls making, Calls call, boolean emptiesTape) {
        SlipHouse untouched = new SlipHouse();
        making.on(untouched);
        SlipHouse tried = new SlipHouse();
        making.on(tried);
        call.on(tried);
        int tape = untouched.count(12);
        Check.due(what + ": bytes of the tape", tried.count(12), emptiesTape ? 0 : tape);
        Check.due(what + ": what the house answers", readOut(tried), readOut(untouched));
    }

    /** What a small house answers to calls that only ask; the tape is left out. */
    static String readOut(SlipHouse house) {
        StringBuilder text = new StringBuilder();
        for (int what = 0; what <= 11; what++) {
            text.append(" count ").append(house.count(what));
        }
        readBooks(house, text);
        readSlips(house, text);
        readSenses(house, text);
        readEditions(house, text);
        readEntries(house, text);
        return text.toString();
    }

    private static void readBooks(SlipHouse house, StringBuilder text) {
        for (int b = 0; b < Math.min(4, house.count(0)); b++) {
            for (int what = 0; what <= 4; what++) {
                text.append(" span ").append(house.span(b, what));
            }
        }
    }

    private static void readSlips(SlipHouse house, StringBuilder text) {
        for (int s = 0; s < Math.min(4, house.count(1)); s++) {
            for (int what = 0; what <= 4; what++) {
                text.append(" where ").append(house.where(s, what));
            }
        }
    }

    private static void readSenses(SlipHouse house, StringBuilder text) {
        for (int t = 0; t < 6; t++) {
            for (int what = 0; what <= 3; what++) {
                text.append(" told ").append(house.told(t, what));
            }
        }
    }

    private static void readEditions(SlipHouse house, StringBuilder text) {
        for (int e = 0; e < Math.min(2, house.count(9)); e++) {
            for (int s = 0; s < Math.min(3, house.count(1)); s++) {
                text.append(" as ").append(house.as(e, s, 0)).append(' ').append(house.as(e, s, 1));
            }
        }
    }

    private static void readEntries(SlipHouse house, StringBuilder text) {
        for (int i = 0; i < 3; i++) {
            text.append(" octet ").append(house.octet(i));
        }
        for (int e = 0; e < Math.min(3, house.count(2)); e++) {
            text.append(" heap ").append(house.count(20 + e)).append(' ').append(printed(house, e));
        }
    }
}
