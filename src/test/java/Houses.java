/** Makes houses for tests, and reads out what they answer. */
final class Houses {
    static final int NONE = SlipHouse.NONE;

    /** Calls that change a house (or are refused). */
    interface Calls {
        void on(SlipHouse house);

        default Calls then(Calls more) {
            return house -> {
                on(house);
                more.on(house);
            };
        }
    }

    private Houses() {
    }

    static SlipHouse made(Calls making) {
        SlipHouse house = new SlipHouse();
        making.on(house);
        return house;
    }

    /** Feeds letters, with zero bytes behind them up to twenty. */
    static int feed(SlipHouse house, String letters) {
        int[] fours = new int[5];
        for (int i = 0; i < letters.length(); i++) {
            fours[i / 4] |= (letters.charAt(i) & 255) << (24 - 8 * (i % 4));
        }
        return house.feed(fours[0], fours[1], fours[2], fours[3], fours[4]);
    }

    static int slip(SlipHouse house, int book, String word) {
        feed(house, word);
        return house.slip(book, word.length());
    }

    static int entry(SlipHouse house, String head, int from, int to) {
        feed(house, head);
        return house.entry(head.length(), from, to);
    }

    static int form(SlipHouse house, int e, String word, int from, int to) {
        feed(house, word);
        return house.form(e, word.length(), from, to);
    }

    static int rule(SlipHouse house, String old, String fresh) {
        feed(house, old + fresh);
        return house.rule(old.length(), fresh.length());
    }

    /** A slip that stands in a sense of entry e from the start. */
    static int slipIn(SlipHouse house, int book, int e, int t) {
        int s = slip(house, book, "x");
        house.put(s, e, t);
        return s;
    }

    static void books(SlipHouse house, int books, int from, int to) {
        for (int b = 0; b < books; b++) {
            house.book(from, to);
        }
    }

    static void slips(SlipHouse house, int slips, int book, String word) {
        for (int s = 0; s < slips; s++) {
            slip(house, book, word);
        }
    }

    static void senses(SlipHouse house, int senses, int e, int under) {
        for (int t = 0; t < senses; t++) {
            house.sense(e, under);
        }
    }

    /** Empties the tape by a call that takes letters from it, whichever has room. */
    static void emptyTape(SlipHouse house) {
        house.entry(1, 1, 1);
        if (house.count(12) > 0) {
            house.slip(0, 1);
        }
        if (house.count(12) > 0) {
            house.rule(1, 1);
        }
    }

    static String printed(SlipHouse house, int e) {
        int length = house.print(e);
        StringBuilder text = new StringBuilder();
        for (int i = 0; i < length; i++) {
            text.append((char) house.octet(i));
        }
        return text.toString();
    }
}
