/** The edges of promises 6 to 9, and of what Terms say of words, slips, entries, forms and rules. */
final class WordEdges {
    private static final int NONE = SlipHouse.NONE;
    private static final int MIN = Integer.MIN_VALUE;
    private static final int MAX = Integer.MAX_VALUE;
    private static final Houses.Calls DESK = WordEdges::desk;

    private WordEdges() {
    }

    static void run() {
        slipNoSuchBook();
        slipHundredAndTwenty();
        slipNotSoMany();
        slipLength();
        slipNoWord();
        slipReasonsTogether();
        slipIsLoose();
        entryNoSuchYears();
        entryTwelve();
        entryLength();
        entryNoWord();
        entryReasonsTogether();
        formNoSuchEntry();
        formNoSuchYears();
        formHasFive();
        formLength();
        formNoWord();
        formReasonsTogether();
        ruleOneOrTwo();
        ruleTen();
        ruleNotSoMany();
        ruleNoWord();
        ruleAlike();
        ruleReasonsTogether();
    }

    /** A book, the entry "cat", a slip "cat" in a sense of it, a loose slip "dog", a rule g for k. */
    private static void desk(SlipHouse house) {
        house.book(1500, 1510);
        Houses.entry(house, "cat", 1500, 1510);
        house.sense(0, NONE);
        Houses.slip(house, 0, "cat");
        house.put(0, 0, 0);
        Houses.slip(house, 0, "dog");
        Houses.rule(house, "k", "g");
        house.print(0);
    }

    private static Houses.Calls fed(String letters) {
        return DESK.then(h -> Houses.feed(h, letters));
    }

    /** What stands behind a word's last letter on the tape, to show that it isn't looked at. */
    private static String word(int letters) {
        return "abcdefghi".substring(0, letters) + "{";
    }

    /** P6: no such book (the tape stays). */
    private static void slipNoSuchBook() {
        Edge.some("P6 book 0", fed("ab"), h -> h.slip(0, 2), 2);
        Edge.none("P6 book -1", fed("ab"), h -> h.slip(-1, 2));
        Edge.none("P6 book 1", fed("ab"), h -> h.slip(1, 2));
        Edge.none("P6 the least int", fed("ab"), h -> h.slip(MIN, 2));
        Edge.none("P6 the greatest int", fed("ab"), h -> h.slip(MAX, 2));
        Houses.Calls shelf = h -> {
            Houses.books(h, 30, 1, 2);
            Houses.feed(h, "ab");
        };
        Edge.some("P6 book 29", shelf, h -> h.slip(29, 2), 0);
        Edge.none("P6 book 30", shelf, h -> h.slip(30, 2));
    }

    private static Houses.Calls slips(int slips) {
        return house -> {
            house.book(1, 2);
            Houses.slips(house, slips, 0, "ab");
            Houses.feed(house, "cd");
        };
    }

    /** P6: 120 are there (the tape stays); Terms: slips 0 to 119. */
    private static void slipHundredAndTwenty() {
        Edge.some("P6 the 120th slip", slips(119), h -> h.slip(0, 2), 119);
        Edge.none("P6 the 121st slip", slips(120), h -> h.slip(0, 2));
        SlipHouse house = Houses.made(slips(119).then(h -> h.slip(0, 2)));
        Check.due("P6 slips", house.count(1), 120);
        Check.due("P6 the book of slip 119", house.where(119, 3), 0);
        Check.due("P6 the word of slip 119", house.where(119, 11), 'd');
    }

    /** P6: it has not so many (the tape stays). */
    private static void slipNotSoMany() {
        Edge.none("P6 an empty tape, n 1", DESK, h -> h.slip(0, 1));
        Edge.none("P6 an empty tape, n 8", DESK, h -> h.slip(0, 8));
        Edge.none("P6 an empty tape, n 0", DESK, h -> h.slip(0, 0));
        Edge.some("P6 twenty bytes, n 8", fed("abcdefgh"), h -> h.slip(0, 8), 2);
        Edge.none("P6 emptied by a slip", fed("abcd").then(h -> h.slip(0, 1)), h -> h.slip(0, 1));
        Houses.Calls forty = fed("abcd").then(h -> Houses.feed(h, "efgh"));
        Edge.none("P6 emptied of forty bytes", forty.then(h -> h.slip(0, 1)), h -> h.slip(0, 1));
        Check.due("P6 bytes left of forty", Houses.made(forty.then(h -> h.slip(0, 8))).count(12), 0);
    }

    /** P6: n is not 1 to 8 (the tape stays); Terms: a word is 1 to 8 letters. */
    private static void slipLength() {
        Edge.none("P6 n 0", fed("abcdefghi"), h -> h.slip(0, 0));
        Edge.some("P6 n 1", fed(word(1)), h -> h.slip(0, 1), 2);
        Edge.some("P6 n 8", fed(word(8)), h -> h.slip(0, 8), 2);
        Edge.none("P6 n 9", fed("abcdefghi"), h -> h.slip(0, 9));
        Edge.none("P6 n 20", fed("abcdefghijklmnopqrst"), h -> h.slip(0, 20));
        Edge.none("P6 n -1", fed("abcdefghi"), h -> h.slip(0, -1));
        Edge.none("P6 n the least int", fed("abcdefghi"), h -> h.slip(0, MIN));
        Edge.none("P6 n the greatest int", fed("abcdefghi"), h -> h.slip(0, MAX));
        SlipHouse house = Houses.made(fed(word(1)).then(h -> h.slip(0, 1)).then(h -> Houses.feed(h, word(8))));
        house.slip(0, 8);
        Check.due("P6 bytes of a word of 1", house.where(2, 4), 1);
        Check.due("P6 bytes of a word of 8", house.where(3, 4), 8);
        Check.due("P6 the last one", house.where(3, 17), 'h');
    }

    /** P6: no word (the tape is empty then); Terms: letters a .. z. */
    private static void slipNoWord() {
        Edge.some("P6 a", fed("a"), h -> h.slip(0, 1), 2);
        Edge.emptied("P6 the sign ahead of a", fed("`"), h -> h.slip(0, 1));
        Edge.some("P6 z", fed("z"), h -> h.slip(0, 1), 2);
        Edge.emptied("P6 the sign behind z", fed("{"), h -> h.slip(0, 1));
        Edge.emptied("P6 A", fed("A"), h -> h.slip(0, 1));
        Edge.emptied("P6 Z", fed("Z"), h -> h.slip(0, 1));
        Edge.emptied("P6 a byte 0", fed("\u0000"), h -> h.slip(0, 1));
        Edge.emptied("P6 a byte 255", fed("\u00ff"), h -> h.slip(0, 1));
        Edge.emptied("P6 a letter and 128", fed("\u00e1"), h -> h.slip(0, 1));
        Edge.emptied("P6 the first of eight", fed("Abcdefgh"), h -> h.slip(0, 8));
        Edge.emptied("P6 the last of eight", fed("abcdefgH"), h -> h.slip(0, 8));
        Edge.some("P6 the one behind them", fed("abcdefgH"), h -> h.slip(0, 7), 2);
        Houses.Calls forty = fed("aB").then(h -> Houses.feed(h, "cd"));
        Edge.emptied("P6 no word, of forty bytes", forty, h -> h.slip(0, 2));
    }

    /** P6: the tape stays by all these, also if the bytes are no word. */
    private static void slipReasonsTogether() {
        Edge.none("P6 no such book, no word", fed("AB"), h -> h.slip(1, 2));
        Edge.none("P6 120 are there, no word", slips(120), h -> h.slip(0, 3));
        Edge.none("P6 n 9, no word", fed("AB"), h -> h.slip(0, 9));
    }

    /** P6: a slip is loose. */
    private static void slipIsLoose() {
        SlipHouse house = Houses.made(fed("cat").then(h -> h.slip(0, 3)));
        Check.due("P6 its entry", house.where(2, 0), NONE);
        Check.due("P6 its sense", house.where(2, 1), NONE);
        Check.due("P6 loose slips", house.count(7), 2);
        Check.due("P6 slips", house.count(1), 3);
    }

    /** P7: no such years (the tape stays). */
    private static void entryNoSuchYears() {
        Edge.some("P7 1 to 1", fed("ab"), h -> h.entry(2, 1, 1), 1);
        Edge.none("P7 0 to 1", fed("ab"), h -> h.entry(2, 0, 1));
        Edge.none("P7 -1 to 1", fed("ab"), h -> h.entry(2, -1, 1));
        Edge.some("P7 2000 to 2000", fed("ab"), h -> h.entry(2, 2000, 2000), 1);
        Edge.none("P7 2000 to 2001", fed("ab"), h -> h.entry(2, 2000, 2001));
        Edge.none("P7 2001 to 2001", fed("ab"), h -> h.entry(2, 2001, 2001));
        Edge.some("P7 1 to 2000", fed("ab"), h -> h.entry(2, 1, 2000), 1);
        Edge.some("P7 7 to 7", fed("ab"), h -> h.entry(2, 7, 7), 1);
        Edge.none("P7 7 to 6", fed("ab"), h -> h.entry(2, 7, 6));
        Edge.none("P7 from the least int", fed("ab"), h -> h.entry(2, MIN, 5));
        Edge.none("P7 to the greatest int", fed("ab"), h -> h.entry(2, 5, MAX));
    }

    private static Houses.Calls entries(int entries) {
        return house -> {
            house.book(1, 2);
            for (int e = 0; e < entries; e++) {
                Houses.entry(house, "ab", 1, 2);
            }
            Houses.slip(house, 0, "cd");
            Houses.feed(house, "cd");
        };
    }

    /** P7: 12 are there (the tape stays); Terms: entries 0 to 11. */
    private static void entryTwelve() {
        Edge.some("P7 the 12th entry", entries(11), h -> h.entry(2, 1, 2), 11);
        Edge.none("P7 the 13th entry", entries(12), h -> h.entry(2, 1, 2));
        SlipHouse house = Houses.made(entries(11).then(h -> h.entry(2, 1, 2)));
        Check.due("P7 the slip fits entry 11", house.fits(0, 11), 1);
        Check.due("P7 the head of entry 11", Houses.printed(house, 11), "cd:");
        Check.due("P7 a sense of entry 11", house.sense(11, NONE), 0);
    }

    /** P7: n is not 1 to 8, the tape has not so many (the tape stays). */
    private static void entryLength() {
        Edge.none("P7 an empty tape, n 1", DESK, h -> h.entry(1, 1, 2));
        Edge.none("P7 an empty tape, n 0", DESK, h -> h.entry(0, 1, 2));
        Edge.none("P7 n 0", fed("abcdefghi"), h -> h.entry(0, 1, 2));
        Edge.some("P7 n 1", fed(word(1)), h -> h.entry(1, 1, 2), 1);
        Edge.some("P7 n 8", fed(word(8)), h -> h.entry(8, 1, 2), 1);
        Edge.none("P7 n 9", fed("abcdefghi"), h -> h.entry(9, 1, 2));
        Edge.none("P7 n -1", fed("abcdefghi"), h -> h.entry(-1, 1, 2));
        Edge.none("P7 n the least int", fed("abcdefghi"), h -> h.entry(MIN, 1, 2));
        Edge.none("P7 n the greatest int", fed("abcdefghi"), h -> h.entry(MAX, 1, 2));
        SlipHouse house = Houses.made(fed(word(8)).then(h -> h.entry(8, 1, 2)));
        Check.due("P7 a head of 8", Houses.printed(house, 1), "abcdefgh:");
        Check.due("P7 the tape is empty", house.count(12), 0);
    }

    /** P7: no word (the tape is empty then). */
    private static void entryNoWord() {
        Edge.some("P7 az", fed("az"), h -> h.entry(2, 1, 2), 1);
        Edge.emptied("P7 the sign ahead of a", fed("a`"), h -> h.entry(2, 1, 2));
        Edge.emptied("P7 the sign behind z", fed("a{"), h -> h.entry(2, 1, 2));
        Edge.emptied("P7 A", fed("Abcdefgh"), h -> h.entry(8, 1, 2));
        Edge.emptied("P7 a byte 0", fed("abc"), h -> h.entry(4, 1, 2));
        Edge.emptied("P7 a letter and 128", fed("\u00e1"), h -> h.entry(1, 1, 2));
    }

    private static void entryReasonsTogether() {
        Edge.none("P7 no such years, no word", fed("AB"), h -> h.entry(2, 2, 1));
        Edge.none("P7 12 are there, no word", entries(12), h -> h.entry(3, 1, 2));
        Edge.none("P7 n 9, no word", fed("AB"), h -> h.entry(9, 1, 2));
    }

    /** P8: no such entry (the tape stays). */
    private static void formNoSuchEntry() {
        Edge.some("P8 entry 0", fed("ab"), h -> h.form(0, 2, 1, 2), 2);
        Edge.none("P8 entry -1", fed("ab"), h -> h.form(-1, 2, 1, 2));
        Edge.none("P8 entry 1", fed("ab"), h -> h.form(1, 2, 1, 2));
        Edge.none("P8 the least int", fed("ab"), h -> h.form(MIN, 2, 1, 2));
        Edge.none("P8 the greatest int", fed("ab"), h -> h.form(MAX, 2, 1, 2));
        Edge.some("P8 entry 11", entries(12), h -> h.form(11, 2, 1, 2), 2);
        Edge.none("P8 entry 12", entries(12), h -> h.form(12, 2, 1, 2));
    }

    /** P8: no such years (the tape stays). */
    private static void formNoSuchYears() {
        Edge.some("P8 1 to 1", fed("ab"), h -> h.form(0, 2, 1, 1), 2);
        Edge.none("P8 0 to 1", fed("ab"), h -> h.form(0, 2, 0, 1));
        Edge.none("P8 -1 to 1", fed("ab"), h -> h.form(0, 2, -1, 1));
        Edge.some("P8 2000 to 2000", fed("ab"), h -> h.form(0, 2, 2000, 2000), 2);
        Edge.none("P8 2000 to 2001", fed("ab"), h -> h.form(0, 2, 2000, 2001));
        Edge.none("P8 2001 to 2001", fed("ab"), h -> h.form(0, 2, 2001, 2001));
        Edge.some("P8 7 to 7", fed("ab"), h -> h.form(0, 2, 7, 7), 2);
        Edge.none("P8 7 to 6", fed("ab"), h -> h.form(0, 2, 7, 6));
        Edge.none("P8 from the least int", fed("ab"), h -> h.form(0, 2, MIN, 5));
        Edge.none("P8 to the greatest int", fed("ab"), h -> h.form(0, 2, 5, MAX));
    }

    /** The entry of the desk with so many forms, and "dog" on the tape. */
    private static Houses.Calls forms(int forms) {
        return DESK.then(h -> {
            for (int f = 1; f < forms; f++) {
                Houses.form(h, 0, "abc", 1500, 1510);
            }
            Houses.entry(h, "cow", 1500, 1510);
            Houses.feed(h, "dog");
        });
    }

    /** P8: it has 5 (the tape stays); Terms: 1 to 5 forms. */
    private static void formHasFive() {
        Edge.some("P8 the second form", forms(1), h -> h.form(0, 3, 1500, 1510), 2);
        Edge.some("P8 the third form", forms(2), h -> h.form(0, 3, 1500, 1510), 3);
        Edge.some("P8 the fifth form", forms(4), h -> h.form(0, 3, 1500, 1510), 5);
        Edge.none("P8 the sixth form", forms(5), h -> h.form(0, 3, 1500, 1510));
        Edge.some("P8 another entry's second form", forms(5), h -> h.form(1, 3, 1500, 1510), 2);
        SlipHouse house = Houses.made(forms(4).then(h -> h.form(0, 3, 1500, 1510)));
        Check.due("P8 dog fits by the fifth form", house.fits(1, 0), 1);
        Check.due("P8 dog fits no other entry by it", house.fits(1, 1), 0);
        Check.due("P8 the head stays", Houses.printed(house, 1), "cow:");
        SlipHouse refused = Houses.made(forms(5).then(h -> h.form(0, 3, 1500, 1510)));
        Check.due("P8 dog does not fit by a sixth one", refused.fits(1, 0), 0);
        Check.due("P8 nor another entry", refused.fits(1, 1), 0);
    }

    /** P8: n is not 1 to 8, the tape has not so many (the tape stays). */
    private static void formLength() {
        Edge.none("P8 an empty tape, n 1", DESK, h -> h.form(0, 1, 1, 2));
        Edge.none("P8 an empty tape, n 0", DESK, h -> h.form(0, 0, 1, 2));
        Edge.none("P8 n 0", fed("abcdefghi"), h -> h.form(0, 0, 1, 2));
        Edge.some("P8 n 1", fed(word(1)), h -> h.form(0, 1, 1, 2), 2);
        Edge.some("P8 n 8", fed(word(8)), h -> h.form(0, 8, 1, 2), 2);
        Edge.none("P8 n 9", fed("abcdefghi"), h -> h.form(0, 9, 1, 2));
        Edge.none("P8 n -1", fed("abcdefghi"), h -> h.form(0, -1, 1, 2));
        Edge.none("P8 n the least int", fed("abcdefghi"), h -> h.form(0, MIN, 1, 2));
        Edge.none("P8 n the greatest int", fed("abcdefghi"), h -> h.form(0, MAX, 1, 2));
        Check.due("P8 the tape is empty", Houses.made(fed("ab").then(h -> h.form(0, 2, 1, 2))).count(12), 0);
    }

    /** P8: no word (the tape is empty then). */
    private static void formNoWord() {
        Edge.some("P8 az", fed("az"), h -> h.form(0, 2, 1, 2), 2);
        Edge.emptied("P8 the sign ahead of a", fed("a`"), h -> h.form(0, 2, 1, 2));
        Edge.emptied("P8 the sign behind z", fed("a{"), h -> h.form(0, 2, 1, 2));
        Edge.emptied("P8 A", fed("Abcdefgh"), h -> h.form(0, 8, 1, 2));
        Edge.emptied("P8 a byte 0", fed("abc"), h -> h.form(0, 4, 1, 2));
        Edge.emptied("P8 a letter and 128", fed("\u00e1"), h -> h.form(0, 1, 1, 2));
    }

    private static void formReasonsTogether() {
        Edge.none("P8 no such entry, no word", fed("AB"), h -> h.form(1, 2, 1, 2));
        Edge.none("P8 no such years, no word", fed("AB"), h -> h.form(0, 2, 2, 1));
        Edge.none("P8 it has 5, no word", forms(5), h -> h.form(0, 4, 1, 2));
        Edge.none("P8 n 9, no word", fed("AB"), h -> h.form(0, 9, 1, 2));
    }

    /** P9: n, m not 1 or 2 (the tape stays). */
    private static void ruleOneOrTwo() {
        Houses.Calls letters = fed("abcdefgh");
        for (int n = 1; n <= 2; n++) {
            for (int m = 1; m <= 2; m++) {
                int old = n;
                int fresh = m;
                Edge.some("P9 " + n + " and " + m, letters, h -> h.rule(old, fresh), 1);
            }
        }
        Edge.none("P9 0 and 1", letters, h -> h.rule(0, 1));
        Edge.none("P9 1 and 0", letters, h -> h.rule(1, 0));
        Edge.none("P9 0 and 0", letters, h -> h.rule(0, 0));
        Edge.none("P9 3 and 1", letters, h -> h.rule(3, 1));
        Edge.none("P9 1 and 3", letters, h -> h.rule(1, 3));
        Edge.none("P9 3 and 2", letters, h -> h.rule(3, 2));
        Edge.none("P9 2 and 3", letters, h -> h.rule(2, 3));
        Edge.none("P9 -1 and 2", letters, h -> h.rule(-1, 2));
        Edge.none("P9 2 and -1", letters, h -> h.rule(2, -1));
        Edge.none("P9 the least int and 1", letters, h -> h.rule(MIN, 1));
        Edge.none("P9 1 and the greatest int", letters, h -> h.rule(1, MAX));
        Edge.none("P9 two ints whose sum wraps around to 2", letters, h -> h.rule(MAX, MIN + 3));
        Check.due("P9 the tape is empty", Houses.made(letters.then(h -> h.rule(1, 1))).count(12), 0);
    }

    /** So many rules, an entry "cat" and a slip "dat", and "cd" on the tape. */
    private static Houses.Calls rules(int rules) {
        return house -> {
            house.book(1, 2);
            Houses.entry(house, "cat", 1, 2);
            Houses.slip(house, 0, "dat");
            for (int r = 0; r < rules; r++) {
                Houses.rule(house, "x", "y");
            }
            Houses.feed(house, "cd");
        };
    }

    /** P9: 10 are there (the tape stays); Terms: rules 0 to 9. */
    private static void ruleTen() {
        Edge.some("P9 the tenth rule", rules(9), h -> h.rule(1, 1), 9);
        Edge.none("P9 the eleventh rule", rules(10), h -> h.rule(1, 1));
        SlipHouse house = Houses.made(rules(9).then(h -> h.rule(1, 1)));
        Check.due("P9 the tenth rule leads", house.fits(0, 0), 1);
        Check.due("P9 rules", house.count(3), 10);
        Check.due("P9 an eleventh rule does not lead", Houses.made(rules(10).then(h -> h.rule(1, 1))).fits(0, 0), 0);
    }

    /** P9: the tape has not so many. */
    private static void ruleNotSoMany() {
        Edge.none("P9 an empty tape, 1 and 1", DESK, h -> h.rule(1, 1));
        Edge.none("P9 an empty tape, 2 and 2", DESK, h -> h.rule(2, 2));
        Edge.some("P9 twenty bytes, 2 and 2", fed("abcd"), h -> h.rule(2, 2), 1);
    }

    /** P9: no word (the tape is empty then). */
    private static void ruleNoWord() {
        Edge.some("P9 az and za", fed("azza{"), h -> h.rule(2, 2), 1);
        Edge.emptied("P9 the first of four", fed("`zza"), h -> h.rule(2, 2));
        Edge.emptied("P9 the second of four", fed("a{za"), h -> h.rule(2, 2));
        Edge.emptied("P9 the third of four", fed("azZa"), h -> h.rule(2, 2));
        Edge.emptied("P9 the last of four", fed("azz"), h -> h.rule(2, 2));
        Edge.emptied("P9 a letter and 128", fed("a\u00e1"), h -> h.rule(1, 1));
        Edge.emptied("P9 both alike and no word", fed("AA"), h -> h.rule(1, 1));
    }

    /** P9: they are alike (the tape is empty then); Terms: not the same. */
    private static void ruleAlike() {
        Edge.emptied("P9 a for a", fed("aa"), h -> h.rule(1, 1));
        Edge.emptied("P9 ab for ab", fed("abab"), h -> h.rule(2, 2));
        Edge.emptied("P9 aa for aa", fed("aaaa"), h -> h.rule(2, 2));
        Edge.some("P9 b for a", fed("ab"), h -> h.rule(1, 1), 1);
        Edge.some("P9 ba for ab", fed("abba"), h -> h.rule(2, 2), 1);
        Edge.some("P9 ac for ab", fed("abac"), h -> h.rule(2, 2), 1);
        Edge.some("P9 bb for ab", fed("abbb"), h -> h.rule(2, 2), 1);
        Edge.some("P9 aa for a", fed("aaa"), h -> h.rule(1, 2), 1);
        Edge.some("P9 a for aa", fed("aaa"), h -> h.rule(2, 1), 1);
        Edge.some("P9 the same rule again", fed("kg"), h -> h.rule(1, 1), 1);
    }

    private static void ruleReasonsTogether() {
        Edge.none("P9 n 3, alike", fed("aaaa"), h -> h.rule(3, 1));
        Edge.none("P9 m 0, no word", fed("AA"), h -> h.rule(1, 0));
        Edge.none("P9 10 are there, no word", rules(10), h -> h.rule(2, 1));
        Houses.Calls alike = rules(10).then(h -> h.slip(0, 1)).then(h -> Houses.feed(h, "aa"));
        Edge.none("P9 10 are there, alike", alike, h -> h.rule(1, 1));
    }
}
