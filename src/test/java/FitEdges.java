/** The edges of promises 10 and 11, and of what Terms say of leading, fitting and sorting. */
final class FitEdges {
    private static final int NONE = SlipHouse.NONE;
    private static final int MIN = Integer.MIN_VALUE;
    private static final int MAX = Integer.MAX_VALUE;
    private static final Houses.Calls DESK = FitEdges::desk;

    private FitEdges() {
    }

    static void run() {
        fitsNoSuch();
        leadsByNoChange();
        leadsByTwoChangesAtMost();
        leadsInTwoSteps();
        leadsByOneRuleTwice();
        leadsOneWay();
        leadsAnywhere();
        leadsThroughWordsOfEight();
        leadsToLettersOfRules();
        leadsByTenRulesAtEightPlaces();
        leadsByRulesToldLater();
        fitsWithAYearTogether();
        fitsByTheSpanAsDrawn();
        fitsByOneForm();
        sortJustOne();
        sortOnlyLoose();
        sortHowMany();
        doubt();
    }

    /** A book of 1500 to 1510, an entry "cat" and a slip "cat" of it, a slip "dog". */
    private static void desk(SlipHouse house) {
        house.book(1500, 1510);
        Houses.entry(house, "cat", 1500, 1510);
        Houses.slip(house, 0, "cat");
        Houses.slip(house, 0, "dog");
        Houses.feed(house, "cow");
    }

    /** P10: no such ones. */
    private static void fitsNoSuch() {
        Edge.asks("P10 slip 0, entry 0", DESK, h -> h.fits(0, 0), 1);
        Edge.asks("P10 slip 1, entry 0", DESK, h -> h.fits(1, 0), 0);
        Edge.none("P10 slip -1", DESK, h -> h.fits(-1, 0));
        Edge.none("P10 slip 2", DESK, h -> h.fits(2, 0));
        Edge.none("P10 entry -1", DESK, h -> h.fits(0, -1));
        Edge.none("P10 entry 1", DESK, h -> h.fits(0, 1));
        Edge.none("P10 the least ints", DESK, h -> h.fits(MIN, MIN));
        Edge.none("P10 the greatest ints", DESK, h -> h.fits(MAX, MAX));
        Edge.asks("P10 a slip in a heap", DESK.then(h -> h.put(0, 0, NONE)), h -> h.fits(0, 0), 1);
        Edge.asks("P10 a slip in the heap of what it does not fit", DESK.then(h -> h.put(1, 0, NONE)),
            h -> h.fits(1, 0), 0);
        Edge.asks("P10 a slip in a sense", DESK.then(h -> h.put(0, 0, h.sense(0, NONE))), h -> h.fits(0, 0), 1);
        Houses.Calls full = h -> {
            h.book(1, 2);
            for (int e = 0; e < 12; e++) {
                Houses.entry(h, "ab", 1, 2);
            }
            Houses.slips(h, 120, 0, "ab");
        };
        SlipHouse house = Houses.made(full);
        Check.due("P10 slip 119, entry 11", house.fits(119, 11), 1);
        Check.due("P10 slip 120", house.fits(120, 11), NONE);
        Check.due("P10 entry 12", house.fits(119, 12), NONE);
    }

    /** Asks of each word whether a slip of it fits an entry with this head and rules, told as "old>fresh". */
    private static void fits(String head, String[] rules, String[] words, int due) {
        SlipHouse house = new SlipHouse();
        house.book(1500, 1510);
        Houses.entry(house, head, 1, 2000);
        for (String rule : rules) {
            String[] both = rule.split(">");
            Houses.rule(house, both[0], both[1]);
        }
        for (int s = 0; s < words.length; s++) {
            Houses.slip(house, 0, words[s]);
            String what = "P10 " + words[s] + " fits " + head + " by " + String.join(", ", rules);
            Check.due(what, house.fits(s, 0), due);
        }
    }

    private static String[] all(String... texts) {
        return texts;
    }

    /** Terms: by no change, too. */
    private static void leadsByNoChange() {
        fits("cat", all(), all("cat"), 1);
        fits("cat", all(), all("ca", "cats", "at", "kat", "tac", "c"), 0);
        fits("cat", all("c>k", "a>e"), all("cat"), 1);
        fits("a", all(), all("a"), 1);
        fits("a", all(), all("b", "aa"), 0);
        fits("abcdefgh", all(), all("abcdefgh"), 1);
        fits("abcdefgh", all(), all("abcdefgi", "bbcdefgh", "abcdefg"), 0);
    }

    /** Terms: at most two changes. */
    private static void leadsByTwoChangesAtMost() {
        fits("abc", all("a>x", "b>y", "c>z"), all("abc", "xbc", "ayc", "abz", "xyc", "xbz", "ayz"), 1);
        fits("abc", all("a>x", "b>y", "c>z"), all("xyz"), 0);
        fits("ab", all("a>b", "bb>c", "c>dd", "dd>e"), all("ab", "bb", "c"), 1);
        fits("ab", all("a>b", "bb>c", "c>dd", "dd>e"), all("dd", "e"), 0);
    }

    /** Terms: the second change may take what the first one brought. */
    private static void leadsInTwoSteps() {
        fits("cat", all("c>k", "k>q"), all("kat", "qat"), 1);
        fits("cat", all("k>q", "c>k"), all("kat", "qat"), 1);
        fits("cat", all("c>sh", "ha>o"), all("shat", "sot"), 1);
        fits("cat", all("at>o", "co>u"), all("co", "u"), 1);
        fits("cat", all("c>k", "k>c"), all("cat", "kat"), 1);
        fits("cat", all("k>q"), all("qat", "kat"), 0);
    }

    /** Terms: each change by a rule; it may be the same one. */
    private static void leadsByOneRuleTwice() {
        fits("aaa", all("a>b"), all("baa", "aba", "aab", "bba", "bab", "abb"), 1);
        fits("aaa", all("a>b"), all("bbb", "caa", "ba"), 0);
        fits("a", all("a>aa"), all("aa", "aaa"), 1);
        fits("a", all("a>aa"), all("aaaa"), 0);
        fits("aaaa", all("aa>a"), all("aaa", "aa"), 1);
        fits("aaaa", all("aa>a"), all("a"), 0);
        fits("aaaa", all("aa>b"), all("baa", "aba", "aab", "bb"), 1);
        fits("aaaa", all("aa>b"), all("bab", "abb", "b"), 0);
    }

    /** Terms: its letters are changed for those for them, not these for its letters. */
    private static void leadsOneWay() {
        fits("fish", all("i>y"), all("fysh"), 1);
        fits("fysh", all("i>y"), all("fish"), 0);
        fits("fysh", all("i>y", "y>i"), all("fish"), 1);
        fits("cab", all("ab>c"), all("cc"), 1);
        fits("cc", all("ab>c"), all("cab"), 0);
    }

    /** Terms: its letters somewhere in the word. */
    private static void leadsAnywhere() {
        fits("abcdefgh", all("ab>x"), all("xcdefgh"), 1);
        fits("abcdefgh", all("gh>x"), all("abcdefx"), 1);
        fits("abcdefgh", all("de>x"), all("abcxfgh"), 1);
        fits("abcdefgh", all("ab>xy", "gh>zz"), all("xycdefzz", "xycdefgh", "abcdefzz"), 1);
        fits("abcdefgh", all("ha>x", "ac>x"), all("xbcdefg", "xdefgh", "bcdefgx"), 0);
        fits("ab", all("ab>x"), all("x"), 1);
        fits("b", all("ab>x"), all("x", "xb"), 0);
        fits("a", all("ab>x"), all("x", "ax"), 0);
        fits("a", all("a>xy"), all("xy"), 1);
    }

    /** Terms: words of more than 8 letters are none. */
    private static void leadsThroughWordsOfEight() {
        fits("abcdefg", all("a>xy"), all("xybcdefg"), 1);
        fits("abcdefg", all("a>xy", "yb>z"), all("xzcdefg"), 1);
        fits("abcdefgh", all("a>xy", "yb>z"), all("xzcdefgh"), 0);
        fits("abcdefgh", all("a>xy", "h>zz"), all("xybcdefg", "bcdefgzz"), 0);
        fits("abcdefgh", all("a>xy", "gh>z"), all("abcdefz", "xybcdefz"), 1);
        fits("abcdefgh", all("a>xy", "xy>z"), all("zbcdefgh"), 0);
        fits("abcdefgh", all("ab>xy", "xy>z"), all("zcdefgh"), 1);
        fits("abcdefgh", all("h>hh"), all("abcdefgh"), 1);
        fits("aaaaaaaa", all("a>bb"), all("bbaaaaaa", "aaaaaabb"), 0);
        fits("aaaaaaaa", all("a>b"), all("baaaaaab", "aaaaaabb"), 1);
    }

    /** The letters at the ends of the alphabet are letters as all others are. */
    private static void leadsToLettersOfRules() {
        fits("zaz", all("z>a"), all("aaz", "zaa", "aaa"), 1);
        fits("aza", all("a>z"), all("zza", "azz", "zzz"), 1);
        fits("zaz", all("za>az"), all("azz"), 1);
        fits("zaz", all("za>az"), all("zza", "aaz"), 0);
    }

    /** The most changes that a word can have: each of ten rules, at each of eight letters. */
    private static void leadsByTenRulesAtEightPlaces() {
        String[] from = all("a>b", "a>c", "a>d", "a>e", "a>f", "a>g", "a>h", "a>i", "a>j", "a>k");
        String[] into = all("b>a", "c>a", "d>a", "e>a", "f>a", "g>a", "h>a", "i>a", "j>a", "k>a");
        fits("aaaaaaaa", from, all("aaaaaaaa", "kaaaaaaa", "aaaaaaab", "kaaaaaak", "baaaaaak"), 1);
        fits("aaaaaaaa", from, all("kkaaaaak", "zaaaaaaa", "aaaaaaa"), 0);
        fits("kaaaaaab", into, all("aaaaaaaa", "aaaaaaab", "kaaaaaaa"), 1);
        fits("kaaaaabb", into, all("aaaaaaaa"), 0);
        fits("zaaaaaaa", into, all("aaaaaaaa"), 0);
    }

    /** Rules count for slips and forms that were told ahead of them, and between them. */
    private static void leadsByRulesToldLater() {
        SlipHouse house = new SlipHouse();
        house.book(1500, 1510);
        Houses.entry(house, "ab", 1, 2000);
        Houses.slip(house, 0, "xy");
        Houses.slip(house, 0, "zb");
        Check.due("P10 no rule", house.fits(0, 0), 0);
        Houses.rule(house, "a", "x");
        Check.due("P10 one of two rules", house.fits(0, 0), 0);
        Houses.rule(house, "b", "y");
        Check.due("P10 both rules", house.fits(0, 0), 1);
        Check.due("P10 a change is wanting", house.fits(1, 0), 0);
        Houses.rule(house, "x", "z");
        Check.due("P10 by the first and the third rule", house.fits(1, 0), 1);
        Houses.form(house, 0, "xb", 1, 2000);
        Houses.slip(house, 0, "zy");
        Check.due("P10 a form and a slip told last", house.fits(2, 0), 1);
        Houses.entry(house, "ab", 1, 2000);
        Check.due("P10 three changes from the head", house.fits(2, 1), 0);
    }

    /** Terms: a form's years and the book's span have a year together. */
    private static void fitsWithAYearTogether() {
        int[][] books = {{1490, 1499}, {1490, 1500}, {1510, 1520}, {1511, 1520}, {1505, 1505}, {1, 2000}, {1500, 1500}};
        int[] due = {0, 1, 1, 0, 1, 1, 1};
        SlipHouse house = new SlipHouse();
        Houses.entry(house, "cat", 1500, 1510);
        Houses.entry(house, "dog", 1, 2000);
        Houses.form(house, 1, "cat", 1500, 1510);
        for (int b = 0; b < books.length; b++) {
            house.book(books[b][0], books[b][1]);
            Houses.slip(house, b, "cat");
            String what = " of a book of " + books[b][0] + " to " + books[b][1];
            Check.due("P10 head" + what, house.fits(b, 0), due[b]);
            Check.due("P10 form" + what, house.fits(b, 1), due[b]);
        }
    }

    /** Terms: the span that counts is the one that befores draw, not the one told. */
    private static void fitsByTheSpanAsDrawn() {
        SlipHouse house = new SlipHouse();
        house.book(10, 20);
        house.book(10, 20);
        Houses.entry(house, "cat", 1, 10);
        Houses.entry(house, "cat", 20, 30);
        Houses.slip(house, 0, "cat");
        Houses.slip(house, 1, "cat");
        Check.due("P10 first as told, to 10", house.fits(0, 0), 1);
        Check.due("P10 first as told, from 20", house.fits(0, 1), 1);
        Check.due("P10 in doubt", house.count(8), 2);
        house.before(0, 1);
        Check.due("P10 first as drawn, to 10", house.fits(0, 0), 1);
        Check.due("P10 first as drawn, from 20", house.fits(0, 1), 0);
        Check.due("P10 second as drawn, to 10", house.fits(1, 0), 0);
        Check.due("P10 second as drawn, from 20", house.fits(1, 1), 1);
        Check.due("P10 in doubt no more", house.count(8), 0);
        Check.due("P10 both are sorted", house.sort(), 2);
    }

    /** Terms: one of its forms; its own years are those that count. */
    private static void fitsByOneForm() {
        Houses.Calls making = h -> {
            h.book(1500, 1510);
            Houses.entry(h, "a", 1, 1499);
            Houses.form(h, 0, "b", 1500, 1510);
            Houses.form(h, 0, "c", 1, 1499);
            Houses.form(h, 0, "d", 1511, 2000);
            Houses.form(h, 0, "e", 1510, 1510);
            Houses.entry(h, "f", 1500, 1510);
            for (int i = 0; i < 6; i++) {
                Houses.slip(h, 0, "abcdef".substring(i, i + 1));
            }
        };
        int[] due = {0, 1, 0, 0, 1, 0};
        for (int i = 0; i < 6; i++) {
            int s = i;
            Edge.asks("P10 form " + i, making, h -> h.fits(s, 0), due[i]);
            Edge.asks("P10 no form of the other entry " + i, making, h -> h.fits(s, 1), i == 5 ? 1 : 0);
        }
    }

    /** Terms: a loose slip that fits just one entry goes to its heap. */
    private static void sortJustOne() {
        Houses.Calls making = h -> {
            h.book(1500, 1510);
            Houses.entry(h, "cat", 1, 2000);
            Houses.entry(h, "kat", 1, 2000);
            Houses.entry(h, "cow", 1, 2000);
            Houses.rule(h, "c", "k");
            Houses.slip(h, 0, "dog");
            Houses.slip(h, 0, "cow");
            Houses.slip(h, 0, "kat");
        };
        Edge.some("P11 one of three", making, SlipHouse::sort, 1);
        SlipHouse house = Houses.made(making.then(SlipHouse::sort));
        int[] due = {NONE, 2, NONE};
        for (int s = 0; s < 3; s++) {
            Check.due("P11 entry of " + s, house.where(s, 0), due[s]);
            Check.due("P11 sense of " + s, house.where(s, 1), NONE);
        }
        Check.due("P11 in its heap", house.count(22), 1);
        Check.due("P11 in doubt", house.where(2, 2), 1);
        Edge.asks("P11 again", making.then(SlipHouse::sort), SlipHouse::sort, 0);
    }

    /** Terms: slips that stand at an entry, in its heap or in a sense, stay there. */
    private static void sortOnlyLoose() {
        Houses.Calls making = h -> {
            h.book(1500, 1510);
            Houses.entry(h, "cat", 1, 2000);
            Houses.entry(h, "dog", 1, 2000);
            h.sense(1, NONE);
            Houses.slips(h, 3, 0, "cat");
            h.put(0, 1, NONE);
            h.put(1, 1, 0);
            h.put(2, 0, NONE);
        };
        Edge.asks("P11 none is loose", making, SlipHouse::sort, 0);
        Houses.Calls loose = making.then(h -> h.put(1, NONE, NONE));
        Edge.some("P11 one is loose", loose, SlipHouse::sort, 1);
        Check.due("P11 it goes to its heap", Houses.made(loose.then(SlipHouse::sort)).where(1, 0), 0);
    }

    /** P11: how many slips went: none, and all of 120. */
    private static void sortHowMany() {
        Houses.Calls full = h -> {
            h.book(1, 2);
            Houses.entry(h, "ab", 1, 2);
            Houses.slips(h, 120, 0, "ab");
        };
        Edge.some("P11 120 slips", full, SlipHouse::sort, 120);
        Check.due("P11 in the heap", Houses.made(full.then(SlipHouse::sort)).count(20), 120);
        Check.due("P11 loose", Houses.made(full.then(SlipHouse::sort)).count(7), 0);
        Edge.asks("P11 no slips", h -> Houses.entry(h, "ab", 1, 2), SlipHouse::sort, 0);
        Edge.asks("P11 no entries", h -> {
            h.book(1, 2);
            Houses.slip(h, 0, "ab");
        }, SlipHouse::sort, 0);
    }

    /** Terms: a loose slip that fits several, as all is now, is in doubt. */
    private static void doubt() {
        SlipHouse house = new SlipHouse();
        house.book(1500, 1510);
        Houses.slip(house, 0, "cat");
        Check.due("P23 fits none", house.where(0, 2), 0);
        Houses.entry(house, "cat", 1, 2000);
        Check.due("P23 fits one", house.where(0, 2), 0);
        Houses.entry(house, "cat", 1, 2000);
        Check.due("P23 fits two", house.where(0, 2), 1);
        Check.due("P29 one in doubt", house.count(8), 1);
        house.put(0, 0, NONE);
        Check.due("P23 in a heap", house.where(0, 2), 0);
        house.sense(0, NONE);
        house.put(0, 0, 0);
        Check.due("P23 in a sense", house.where(0, 2), 0);
        Check.due("P29 none in doubt", house.count(8), 0);
        house.put(0, NONE, NONE);
        Check.due("P23 loose again", house.where(0, 2), 1);
        Houses.slip(house, 0, "cut");
        Check.due("P23 another one fits none", house.where(1, 2), 0);
        Houses.rule(house, "a", "u");
        Check.due("P23 it fits two by a rule told later", house.where(1, 2), 1);
        Check.due("P29 two in doubt", house.count(8), 2);
    }
}
