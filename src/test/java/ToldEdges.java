/** The edges of promises 20 to 23, and of what Terms say of witnesses, first, last, gap, order, older and flaws. */
final class ToldEdges {
    private static final int NONE = SlipHouse.NONE;
    private static final int MIN = Integer.MIN_VALUE;
    private static final int MAX = Integer.MAX_VALUE;
    private static final Houses.Calls TREE = ToldEdges::tree;

    private ToldEdges() {
    }

    static void run() {
        toldNoSuchSense();
        toldWhat();
        toldWithoutWitnesses();
        witnessesAtAnyDepth();
        firstAndLast();
        firstAndLastAsDrawn();
        gapBetweenSpans();
        gapOfAll();
        orderByYears();
        orderWithoutWitnesses();
        orderOfEntryAndParent();
        olderNoSuchOnes();
        olderWithoutWitnesses();
        olderByYears();
        olderByBefores();
        olderAheadOfAll();
        olderInOneTree();
        flawIndex();
        flawBothHaveSlips();
        flawByOwnSlips();
        flawOnlyUnder();
        flawByYearsOrBefores();
        flawsMost();
        whereNoSuchSlip();
        whereWhat();
        whereBytes();
    }

    /** Books of so many spans, each one's years one behind the other. */
    private static void books(SlipHouse house, int... years) {
        for (int i = 0; i + 1 < years.length; i += 2) {
            house.book(years[i], years[i + 1]);
        }
    }

    /** Entry 0 with senses 0, 1 under 0, 2 under 1, 3; slips in 0 and 2, in the heap, and a loose one. */
    private static void tree(SlipHouse house) {
        books(house, 10, 20, 30, 40, 50, 60);
        Houses.entry(house, "cat", 1, 2000);
        Houses.entry(house, "dog", 1, 2000);
        house.sense(0, NONE);
        house.sense(0, 0);
        house.sense(0, 1);
        house.sense(0, NONE);
        Houses.slipIn(house, 1, 0, 0);
        Houses.slipIn(house, 0, 0, 2);
        Houses.slipIn(house, 2, 0, NONE);
        Houses.slip(house, 2, "cow");
        house.edition();
        house.print(0);
        Houses.feed(house, "cow");
    }

    /** Entry 0 with so many senses at the top and a slip of book t in sense t, if there is one. */
    private static SlipHouse row(int senses, int... years) {
        SlipHouse house = new SlipHouse();
        books(house, years);
        Houses.entry(house, "cat", 1, 2000);
        Houses.senses(house, senses, 0, NONE);
        for (int t = 0; t < senses && 2 * t < years.length; t++) {
            Houses.slipIn(house, t, 0, t);
        }
        return house;
    }

    /** One sense with a slip in each book of these spans. */
    private static SlipHouse one(int... years) {
        SlipHouse house = new SlipHouse();
        books(house, years);
        Houses.entry(house, "cat", 1, 2000);
        house.sense(0, NONE);
        for (int b = 0; 2 * b < years.length; b++) {
            Houses.slipIn(house, b, 0, 0);
        }
        return house;
    }

    /** P20: NONE for others. */
    private static void toldNoSuchSense() {
        Edge.none("P20 -1", TREE, h -> h.told(-1, 0));
        Edge.asks("P20 0", TREE, h -> h.told(0, 0), 0);
        Edge.asks("P20 3", TREE, h -> h.told(3, 9), 2);
        Edge.none("P20 4", TREE, h -> h.told(4, 0));
        Edge.none("P20 4, its place", TREE, h -> h.told(4, 9));
        Edge.none("P20 39", TREE, h -> h.told(39, 11));
        Edge.none("P20 40", TREE, h -> h.told(40, 0));
        Edge.none("P20 the least int", TREE, h -> h.told(MIN, 0));
        Edge.none("P20 the greatest int", TREE, h -> h.told(MAX, 0));
        Edge.none("P20 one that is dropped", TREE.then(h -> h.drop(3)), h -> h.told(3, 0));
        SlipHouse house = row(40);
        Check.due("P20 39 of 40", house.told(39, 9), 40);
        Check.due("P20 40 of 40", house.told(40, 9), NONE);
    }

    /** P20: what 0 to 11, NONE for others. */
    private static void toldWhat() {
        int[] ofTop = {0, NONE, 1, 2, 10, 20, 30, 40, 9, 1, 1, 1};
        int[] ofMiddle = {0, 0, 0, 1, 10, 20, 10, 20, 0, 1, 1, 2};
        int[] ofDeep = {0, 1, 1, 1, 10, 20, 10, 20, 0, 1, 0, 3};
        int[] ofEmpty = {0, NONE, 0, 0, NONE, NONE, NONE, NONE, NONE, 2, 0, 1};
        int[][] due = {ofTop, ofMiddle, ofDeep, ofEmpty};
        for (int t = 0; t < 4; t++) {
            for (int what = 0; what <= 11; what++) {
                int a = t;
                int asked = what;
                Edge.asks("P20 told(" + t + ", " + what + ")", TREE, h -> h.told(a, asked), due[t][what]);
            }
        }
        Edge.none("P20 what -1", TREE, h -> h.told(0, -1));
        Edge.none("P20 what 12", TREE, h -> h.told(0, 12));
        Edge.none("P20 what the least int", TREE, h -> h.told(0, MIN));
        Edge.none("P20 what the greatest int", TREE, h -> h.told(0, MAX));
    }

    /** P20: 4 to 8: NONE without witnesses. */
    private static void toldWithoutWitnesses() {
        SlipHouse house = Houses.made(TREE);
        for (int what = 4; what <= 8; what++) {
            Check.due("P20 without witnesses, what " + what, house.told(3, what), NONE);
        }
        house.put(3, 0, 3);
        int[] due = {50, 60, 50, 60, 0};
        for (int what = 4; what <= 8; what++) {
            Check.due("P20 with one, what " + what, house.told(3, what), due[what - 4]);
        }
        house.put(3, 0, NONE);
        for (int what = 4; what <= 8; what++) {
            Check.due("P20 without one again, what " + what, house.told(3, what), NONE);
        }
    }

    /** Terms: slips that stand in it, or in one under it, at any depth; none of its entry's heap. */
    private static void witnessesAtAnyDepth() {
        SlipHouse house = Houses.made(TREE);
        house.put(3, 0, 1);
        int[] own = {1, 1, 1, 0};
        int[] all = {3, 2, 1, 0};
        for (int t = 0; t < 4; t++) {
            Check.due("P20 own slips of " + t, house.told(t, 2), own[t]);
            Check.due("P20 witnesses of " + t, house.told(t, 3), all[t]);
        }
        house.move(2, 3);
        Check.due("P20 one witness less", house.told(0, 3), 2);
        Check.due("P20 one witness more", house.told(3, 3), 1);
        house.put(2, 1, NONE);
        Check.due("P20 none of a heap", house.told(0, 3), 2);
    }

    private static void years(String what, SlipHouse house, int... due) {
        for (int i = 0; i < due.length; i++) {
            Check.due(what + ", what " + (4 + i), house.told(0, 4 + i), due[i]);
        }
    }

    /** Terms: first and last, each by the least and the greatest of all. */
    private static void firstAndLast() {
        years("P20 one book", one(10, 20), 10, 20, 10, 20, 0);
        years("P20 one year", one(7, 7), 7, 7, 7, 7, 0);
        years("P20 all years", one(1, 2000), 1, 2000, 1, 2000, 0);
        years("P20 year 2000", one(2000, 2000), 2000, 2000, 2000, 2000, 0);
        years("P20 one about the other", one(10, 90, 40, 50), 10, 50, 40, 90, 0);
        years("P20 the other way", one(40, 50, 10, 90), 10, 50, 40, 90, 0);
        years("P20 three books", one(30, 40, 20, 80, 25, 35), 20, 35, 30, 80, 0);
        SlipHouse house = one(10, 20, 10, 20);
        house.before(0, 1);
        years("P20 as drawn", house, 10, 19, 11, 20, 0);
    }

    /** Terms: of their books' spans, not of what was told. */
    private static void firstAndLastAsDrawn() {
        Houses.Calls four = h -> {
            books(h, 10, 40, 10, 40, 30, 30, 20, 20);
            Houses.entry(h, "cat", 1, 2000);
            h.sense(0, NONE);
            h.before(0, 3);
            h.before(2, 1);
        };
        years("P20 last drawn to 19", Houses.made(four.then(h -> Houses.slipIn(h, 0, 0, 0))), 10, 19, 10, 19, 0);
        years("P20 first drawn to 31", Houses.made(four.then(h -> Houses.slipIn(h, 1, 0, 0))), 31, 40, 31, 40, 0);
        SlipHouse both = Houses.made(four.then(h -> Houses.slipIn(h, 0, 0, 0)).then(h -> Houses.slipIn(h, 1, 0, 0)));
        years("P20 20 to 30 between them", both, 10, 19, 31, 40, 11);
        SlipHouse alike = Houses.made(four.then(h -> h.before(3, 2)).then(h -> h.book(12, 35)).then(h -> {
            Houses.slipIn(h, 4, 0, 0);
            Houses.slipIn(h, 1, 0, 0);
        }));
        years("P20 one drawn into the other", alike, 12, 35, 31, 40, 0);
    }

    /** Terms: gap, the most years one behind the other that are in no witness's span. */
    private static void gapBetweenSpans() {
        Check.due("P20 spans that meet in a year", one(10, 20, 20, 30).told(0, 8), 0);
        Check.due("P20 spans that touch", one(10, 20, 21, 30).told(0, 8), 0);
        Check.due("P20 a year between", one(10, 20, 22, 30).told(0, 8), 1);
        Check.due("P20 told the other way", one(22, 30, 10, 20).told(0, 8), 1);
        Check.due("P20 the first and the last year", one(1, 1, 2000, 2000).told(0, 8), 1998);
        Check.due("P20 the same book twice", one(10, 20, 10, 20).told(0, 8), 0);
        SlipHouse house = one(10, 20, 15, 30);
        Check.due("P20 as told", house.told(0, 8), 0);
        house.book(12, 18);
        house.book(25, 26);
        house.before(0, 2);
        house.before(3, 1);
        Check.due("P20 as drawn: 10 to 17, 26 to 30", house.told(0, 8), 8);
        SlipHouse three = one(5, 6, 10, 40, 50, 60);
        Check.due("P20 three as told", three.told(0, 8), 9);
        three.book(20, 20);
        three.before(1, 3);
        Check.due("P20 three as drawn: 5 to 6, 10 to 19, 50 to 60", three.told(0, 8), 30);
    }

    /** Terms: the widest of all gaps, none within a long span, none outside the first and last year. */
    private static void gapOfAll() {
        Check.due("P20 the first is the widest", one(10, 20, 31, 40, 45, 50).told(0, 8), 10);
        Check.due("P20 the last is the widest", one(10, 20, 25, 40, 51, 60).told(0, 8), 10);
        Check.due("P20 the middle one is", one(10, 10, 12, 12, 20, 20, 22, 22).told(0, 8), 7);
        Check.due("P20 a long span over all", one(10, 60, 12, 13, 40, 41).told(0, 8), 0);
        Check.due("P20 a long span over some", one(10, 45, 12, 13, 50, 51).told(0, 8), 4);
        Check.due("P20 of spans that begin together", one(10, 11, 10, 30, 40, 50).told(0, 8), 9);
        Check.due("P20 of spans that end together", one(10, 12, 20, 50, 45, 50).told(0, 8), 7);
        SlipHouse house = Houses.made(TREE);
        Check.due("P20 of those under it, too", house.told(0, 8), 9);
        house.put(3, 0, 1);
        house.put(0, 0, 3);
        Check.due("P20 21 to 49", house.told(0, 8), 29);
    }

    private static void places(String what, SlipHouse house, int... due) {
        for (int t = 0; t < due.length; t++) {
            Check.due(what + ": place of " + t, house.told(t, 9), due[t]);
        }
    }

    /** Terms: by the first year of first, then its last year, then by numbers. */
    private static void orderByYears() {
        places("P20 by first years", row(3, 30, 40, 10, 90, 20, 25), 3, 1, 2);
        places("P20 by a year", row(2, 11, 11, 10, 99), 2, 1);
        places("P20 by last years", row(3, 10, 40, 10, 20, 10, 39), 3, 1, 2);
        places("P20 by numbers", row(3, 10, 20, 10, 20, 10, 20), 1, 2, 3);
        places("P20 by years, not by last", row(2, 10, 20, 9, 2000), 2, 1);
        SlipHouse drawn = row(2, 10, 30, 12, 30, 12, 12, 14, 14);
        places("P20 as told", drawn, 1, 2);
        drawn.before(2, 0);
        places("P20 by first years as drawn", drawn, 2, 1);
        drawn.before(2, 1);
        places("P20 alike as drawn", drawn, 1, 2);
        drawn.before(1, 3);
        places("P20 by last years as drawn", drawn, 2, 1);
        SlipHouse house = row(2, 10, 20, 10, 19);
        places("P20 a year less", house, 2, 1);
        Houses.slipIn(house, 0, 0, 1);
        Houses.slipIn(house, 1, 0, 0);
        places("P20 alike, by numbers", house, 1, 2);
    }

    /** Terms: those without witnesses last, by numbers. */
    private static void orderWithoutWitnesses() {
        places("P20 none has one", row(3), 1, 2, 3);
        places("P20 the first two have", row(4, 20, 20, 10, 10), 2, 1, 3, 4);
        SlipHouse house = row(4);
        books(house, 2000, 2000);
        Houses.slipIn(house, 0, 0, 3);
        places("P20 the last one has, of 2000", house, 2, 3, 4, 1);
        Houses.slipIn(house, 0, 0, 1);
        places("P20 two have", house, 3, 1, 4, 2);
        SlipHouse under = row(2);
        books(under, 10, 20);
        under.sense(0, 1);
        Houses.slipIn(under, 0, 0, 2);
        places("P20 one has it under it", under, 2, 1, 1);
        SlipHouse renewed = row(40);
        renewed.drop(5);
        Check.due("P20 place of 6, without 5", renewed.told(6, 9), 6);
        renewed.sense(0, NONE);
        Check.due("P20 place of 5, given anew", renewed.told(5, 9), 6);
        Check.due("P20 place of 39", renewed.told(39, 9), 40);
    }

    /** Terms: the order of senses with one entry and parent. */
    private static void orderOfEntryAndParent() {
        SlipHouse house = new SlipHouse();
        Houses.entry(house, "cat", 1, 2);
        Houses.entry(house, "dog", 1, 2);
        house.sense(1, NONE);
        house.sense(0, NONE);
        house.sense(0, 1);
        house.sense(1, 0);
        house.sense(0, NONE);
        house.sense(0, 1);
        house.sense(0, 4);
        house.sense(1, NONE);
        places("P20 of two entries", house, 1, 1, 1, 1, 2, 2, 1, 2);
    }

    /** P21: no such ones. */
    private static void olderNoSuchOnes() {
        Edge.asks("P21 0 and 1", TREE, h -> h.older(0, 1), 0);
        Edge.none("P21 -1 and 0", TREE, h -> h.older(-1, 0));
        Edge.none("P21 0 and -1", TREE, h -> h.older(0, -1));
        Edge.none("P21 4 and 0", TREE, h -> h.older(4, 0));
        Edge.none("P21 0 and 4", TREE, h -> h.older(0, 4));
        Edge.none("P21 40 and 0", TREE, h -> h.older(40, 0));
        Edge.none("P21 0 and 40", TREE, h -> h.older(0, 40));
        Edge.none("P21 the least int", TREE, h -> h.older(MIN, 0));
        Edge.none("P21 the greatest int", TREE, h -> h.older(0, MAX));
        Edge.none("P21 none, twice", TREE, h -> h.older(4, 4));
        Edge.none("P21 one that is dropped", TREE.then(h -> h.drop(3)), h -> h.older(0, 3));
        SlipHouse house = row(40);
        books(house, 10, 20, 30, 40);
        Houses.slipIn(house, 0, 0, 39);
        Houses.slipIn(house, 1, 0, 0);
        Check.due("P21 39 and 0", house.older(39, 0), 1);
        Check.due("P21 0 and 39", house.older(0, 39), 2);
        Check.due("P21 40 and 0", house.older(40, 0), NONE);
    }

    /** P21: or without witnesses. */
    private static void olderWithoutWitnesses() {
        Edge.none("P21 the other without", TREE, h -> h.older(0, 3));
        Edge.none("P21 the one without", TREE, h -> h.older(3, 0));
        Edge.none("P21 one and itself without", TREE, h -> h.older(3, 3));
        Edge.asks("P21 none of its own, but under it", TREE, h -> h.older(1, 2), 0);
        Houses.Calls later = TREE.then(h -> h.put(3, 0, 3));
        Edge.asks("P21 one by what is under it", later, h -> h.older(1, 3), 1);
        Edge.asks("P21 the same, the other way", later, h -> h.older(3, 1), 2);
        Edge.asks("P21 not by its own alone", later.then(h -> h.put(0, NONE, NONE)).then(h -> h.put(2, 0, 0)),
            h -> h.older(0, 3), 1);
        Edge.asks("P21 one and itself", TREE, h -> h.older(0, 0), 0);
        Edge.asks("P21 with one", TREE.then(h -> h.put(3, 0, 3)), h -> h.older(0, 3), 1);
        Edge.asks("P21 with one, the other way", TREE.then(h -> h.put(3, 0, 3)), h -> h.older(3, 0), 2);
    }

    /** Terms: the last year of its first is ahead of the first year of the other's first. */
    private static void olderByYears() {
        Check.due("P21 20 and 21", row(2, 10, 20, 21, 30).older(0, 1), 1);
        Check.due("P21 21 and 20", row(2, 10, 20, 21, 30).older(1, 0), 2);
        Check.due("P21 20 and 20", row(2, 10, 20, 20, 30).older(0, 1), 0);
        Check.due("P21 20 and 20, the other way", row(2, 10, 20, 20, 30).older(1, 0), 0);
        Check.due("P21 20 and 19", row(2, 10, 20, 19, 30).older(0, 1), 0);
        Check.due("P21 1 and 2", row(2, 1, 1, 2, 2).older(0, 1), 1);
        Check.due("P21 1999 and 2000", row(2, 1999, 1999, 2000, 2000).older(0, 1), 1);
        SlipHouse house = row(2, 10, 20, 21, 30, 5, 90, 21, 21);
        Houses.slipIn(house, 2, 0, 0);
        Check.due("P21 an earlier first year of the one", house.older(0, 1), 1);
        Houses.slipIn(house, 3, 0, 1);
        Check.due("P21 another last year of the other", house.older(0, 1), 1);
        Houses.slipIn(house, 2, 0, 1);
        Check.due("P21 an earlier first year of the other", house.older(0, 1), 0);
        SlipHouse last = row(2, 10, 30, 21, 30, 21, 21);
        Check.due("P21 30 as told, and 21", last.older(0, 1), 0);
        last.before(0, 2);
        Check.due("P21 20 as drawn, and 21", last.older(0, 1), 1);
        SlipHouse first = row(2, 10, 20, 10, 30, 20, 20);
        Check.due("P21 20, and 10 as told", first.older(0, 1), 0);
        first.before(2, 1);
        Check.due("P21 20, and 21 as drawn", first.older(0, 1), 1);
        Check.due("P21 the same, the other way", first.older(1, 0), 2);
        SlipHouse drawn = row(2, 10, 20, 15, 30);
        drawn.book(14, 14);
        Check.due("P21 as told", drawn.older(0, 1), 0);
        drawn.before(2, 1);
        Check.due("P21 as drawn, in doubt still", drawn.older(0, 1), 0);
        drawn.before(0, 2);
        Check.due("P21 as drawn, 13 and 15", drawn.older(0, 1), 1);
    }

    /** Five books of all years and two senses, with a slip of books 0 and 4 each. */
    private static SlipHouse wide() {
        SlipHouse house = new SlipHouse();
        Houses.books(house, 5, 1, 2000);
        Houses.entry(house, "cat", 1, 2000);
        Houses.senses(house, 2, 0, NONE);
        Houses.slipIn(house, 0, 0, 0);
        Houses.slipIn(house, 4, 0, 1);
        return house;
    }

    /** Terms: by one before or several one behind the other. */
    private static void olderByBefores() {
        SlipHouse direct = wide();
        Check.due("P21 no before", direct.older(0, 1), 0);
        direct.before(0, 4);
        Check.due("P21 one before", direct.older(0, 1), 1);
        Check.due("P21 one before, the other way", direct.older(1, 0), 2);
        SlipHouse chain = wide();
        chain.before(2, 3);
        chain.before(0, 1);
        chain.before(3, 4);
        Check.due("P21 one is wanting", chain.older(0, 1), 0);
        chain.before(1, 2);
        Check.due("P21 four befores", chain.older(0, 1), 1);
        Check.due("P21 four befores, the other way", chain.older(1, 0), 2);
        SlipHouse fork = wide();
        fork.before(1, 0);
        fork.before(1, 4);
        Check.due("P21 both behind one", fork.older(0, 1), 0);
        fork.before(0, 2);
        fork.before(4, 2);
        Check.due("P21 both ahead of one", fork.older(0, 1), 0);
        fork.before(4, 0);
        Check.due("P21 the other one", fork.older(0, 1), 2);
        SlipHouse refused = wide();
        refused.before(4, 0);
        refused.before(0, 4);
        Check.due("P21 a refused before tells nothing", refused.older(0, 1), 2);
    }

    /** Terms: one of its witnesses' books is ahead of all books of the other's witnesses. */
    private static void olderAheadOfAll() {
        SlipHouse house = wide();
        house.before(0, 4);
        Houses.slipIn(house, 3, 0, 1);
        Check.due("P21 ahead of one of two", house.older(0, 1), 0);
        house.before(0, 3);
        Check.due("P21 ahead of both", house.older(0, 1), 1);
        Houses.slipIn(house, 1, 0, 0);
        Check.due("P21 one of two is ahead of both", house.older(0, 1), 1);
        Houses.slipIn(house, 0, 0, 1);
        Check.due("P21 not ahead of its own book", house.older(0, 1), 0);
        house.before(1, 0);
        Check.due("P21 another one is ahead of all three", house.older(0, 1), 1);
        SlipHouse shared = wide();
        shared.before(0, 4);
        Houses.slipIn(shared, 2, 0, 0);
        Houses.slipIn(shared, 3, 0, 1);
        shared.before(2, 3);
        Check.due("P21 each ahead of another one, none of both", shared.older(0, 1), 0);
    }

    /** P21: of two senses one of which is under the other, and of two entries. */
    private static void olderInOneTree() {
        SlipHouse house = Houses.made(TREE);
        Check.due("P21 one under it is a part of it", house.older(0, 2), 0);
        Check.due("P21 the other way", house.older(2, 0), 0);
        house.sense(1, NONE);
        house.put(3, 1, 4);
        Check.due("P21 of two entries", house.older(0, 4), 1);
        Check.due("P21 of two entries, the other way", house.older(4, 2), 2);
    }

    /** P22: the i-th flaw; NONE for others. */
    private static void flawIndex() {
        Houses.Calls two = TREE.then(h -> h.put(2, 0, 1)).then(h -> h.put(3, 0, 0)).then(h -> h.put(0, NONE, NONE));
        int[] due = {64 * 2, 64 * 2 + 1};
        Edge.asks("P22 flaws", two, h -> h.count(11), 2);
        for (int i = 0; i < 2; i++) {
            int asked = i;
            Edge.asks("P22 flaw " + i, two, h -> h.flaw(asked), due[i]);
        }
        Edge.none("P22 flaw -1", two, h -> h.flaw(-1));
        Edge.none("P22 flaw 2", two, h -> h.flaw(2));
        Edge.none("P22 flaw the least int", two, h -> h.flaw(MIN));
        Edge.none("P22 flaw the greatest int", two, h -> h.flaw(MAX));
        Houses.Calls none = TREE.then(h -> h.put(0, NONE, NONE));
        Edge.none("P22 flaw 0 of none", none, h -> h.flaw(0));
        Edge.asks("P22 no flaws", none, h -> h.count(11), 0);
    }

    /** Terms: both have some slips of their own. */
    private static void flawBothHaveSlips() {
        SlipHouse house = Houses.made(TREE);
        Check.due("P22 2 under 0 by its own", house.flaw(0), 64 * 2);
        Check.due("P22 none of 1, which has none of its own", house.count(11), 1);
        house.put(0, 0, NONE);
        Check.due("P22 the other has none", house.count(11), 0);
        house.put(0, 0, 0);
        house.put(1, 0, NONE);
        Check.due("P22 the one has none", house.count(11), 0);
    }

    /** Terms: by its own slips alone, not by those under it. */
    private static void flawByOwnSlips() {
        SlipHouse house = Houses.made(TREE);
        house.put(3, 0, 1);
        Check.due("P22 flaws by own slips", house.count(11), 2);
        Check.due("P22 2 under 0", house.flaw(0), 64 * 2);
        Check.due("P22 2 under 1", house.flaw(1), 64 * 2 + 1);
        Check.due("P22 1 and 0 by all of theirs are in doubt", house.older(1, 0), 0);
        house.put(0, 0, 2);
        house.put(1, 0, 0);
        Check.due("P22 0 has the oldest one", house.count(11), 1);
        Check.due("P22 2 under 1 then", house.flaw(0), 64 * 2 + 1);
        SlipHouse less = Houses.made(TREE);
        less.put(3, 0, 2);
        Check.due("P22 2 has an old slip and a young one", less.count(11), 1);
        less.put(1, NONE, NONE);
        Check.due("P22 its old one is away", less.count(11), 0);
        less.put(0, 0, NONE);
        less.put(1, 0, 0);
        less.put(0, 0, 2);
        Check.due("P22 0 has an older one now", less.count(11), 0);
        less.put(2, 0, 0);
        less.put(1, NONE, NONE);
        Check.due("P22 0 has a younger one alone", less.count(11), 1);
    }

    /** Terms: a sense under another one, at any depth; not beside it, above it or of another entry. */
    private static void flawOnlyUnder() {
        SlipHouse house = Houses.made(TREE);
        house.move(2, NONE);
        Check.due("P22 beside it", house.count(11), 0);
        house.move(0, 2);
        Check.due("P22 above it", house.count(11), 0);
        house.move(0, NONE);
        house.move(2, 0);
        Check.due("P22 just under it", house.flaw(0), 64 * 2);
        house.move(2, 3);
        Check.due("P22 under another one", house.count(11), 0);
        house.move(3, 1);
        Check.due("P22 deep under it", house.flaw(0), 64 * 2);
        SlipHouse deep = new SlipHouse();
        books(deep, 10, 20, 30, 40);
        Houses.entry(deep, "cat", 1, 2);
        for (int t = 0; t < 40; t++) {
            deep.sense(0, t - 1);
        }
        Houses.slipIn(deep, 1, 0, 0);
        Houses.slipIn(deep, 0, 0, 39);
        Check.due("P22 39 deep under 0", deep.flaw(0), 64 * 39);
        Check.due("P22 no other", deep.flaw(1), NONE);
    }

    /** Terms: surely older by years, just so and just not, or by befores. */
    private static void flawByYearsOrBefores() {
        Houses.Calls two = h -> {
            books(h, 20, 30, 10, 20, 10, 19, 10, 30);
            Houses.entry(h, "cat", 1, 2);
            h.sense(0, NONE);
            h.sense(0, 0);
            Houses.slipIn(h, 0, 0, 0);
        };
        Check.due("P22 20 and 20", Houses.made(two.then(h -> Houses.slipIn(h, 1, 0, 1))).count(11), 0);
        Check.due("P22 19 and 20", Houses.made(two.then(h -> Houses.slipIn(h, 2, 0, 1))).count(11), 1);
        SlipHouse house = Houses.made(two.then(h -> Houses.slipIn(h, 3, 0, 1)));
        Check.due("P22 in doubt", house.count(11), 0);
        house.before(3, 0);
        Check.due("P22 by a before", house.flaw(0), 64);
        Houses.slipIn(house, 3, 0, 0);
        Check.due("P22 not ahead of all of its own", house.count(11), 0);
        SlipHouse other = Houses.made(two.then(h -> Houses.slipIn(h, 3, 0, 1)));
        other.before(0, 3);
        Check.due("P22 the one above is older", other.count(11), 0);
    }

    /** P22: by the sense under, then by the other; each of thirty senses in a chain is older than all above it. */
    private static void flawsMost() {
        SlipHouse house = new SlipHouse();
        Houses.entry(house, "cat", 1, 2);
        for (int t = 0; t < 40; t++) {
            house.sense(0, t - 1);
        }
        for (int b = 0; b < 30; b++) {
            house.book(100 - b, 100 - b);
            Houses.slipIn(house, b, 0, 10 + b);
        }
        Check.due("P22 flaws", house.count(11), 435);
        int i = 0;
        for (int t = 11; t < 20; t++) {
            for (int a = 10; a < t; a++) {
                Check.due("P22 flaw " + i, house.flaw(i), 64 * t + a);
                i++;
            }
        }
        Check.due("P22 the last one", house.flaw(434), 64 * 39 + 38);
        Check.due("P22 none behind it", house.flaw(435), NONE);
    }

    /** P23: NONE for other slips. */
    private static void whereNoSuchSlip() {
        Edge.none("P23 slip -1", TREE, h -> h.where(-1, 3));
        Edge.asks("P23 slip 0", TREE, h -> h.where(0, 3), 1);
        Edge.asks("P23 slip 3", TREE, h -> h.where(3, 3), 2);
        Edge.none("P23 slip 4", TREE, h -> h.where(4, 3));
        Edge.none("P23 the least int", TREE, h -> h.where(MIN, 3));
        Edge.none("P23 the greatest int", TREE, h -> h.where(MAX, 3));
        SlipHouse house = new SlipHouse();
        house.book(1, 2);
        Houses.slips(house, 120, 0, "a");
        Check.due("P23 slip 119", house.where(119, 3), 0);
        Check.due("P23 slip 120", house.where(120, 3), NONE);
    }

    /** P23: what 0 to 4; NONE for others. */
    private static void whereWhat() {
        int[][] due = {{0, 0, 0, 1, 1}, {0, 2, 0, 0, 1}, {0, NONE, 0, 2, 1}, {NONE, NONE, 0, 2, 3}};
        for (int slip = 0; slip < 4; slip++) {
            for (int what = 0; what <= 4; what++) {
                int s = slip;
                int asked = what;
                Edge.asks("P23 where(" + s + ", " + what + ")", TREE, h -> h.where(s, asked), due[s][what]);
            }
        }
        Edge.none("P23 what -1", TREE, h -> h.where(3, -1));
        for (int what = 5; what <= 9; what++) {
            int asked = what;
            Edge.none("P23 what " + what, TREE, h -> h.where(3, asked));
        }
        Edge.none("P23 what the least int", TREE, h -> h.where(3, MIN));
        Edge.none("P23 what the greatest int", TREE, h -> h.where(3, MAX));
        Edge.none("P23 what wraps around to byte 0", TREE, h -> h.where(3, MIN + 10));
    }

    /** P23: 10 + i byte i of it, as many as it has. */
    private static void whereBytes() {
        String[] words = {"q", "qrstuvwx"};
        SlipHouse house = new SlipHouse();
        house.book(1, 2);
        for (int s = 0; s < 2; s++) {
            Houses.slip(house, 0, words[s]);
            int bytes = words[s].length();
            Check.due("P23 bytes of " + words[s], house.where(s, 4), bytes);
            Check.due("P23 ahead of byte 0", house.where(s, 9), NONE);
            for (int i = 0; i < bytes; i++) {
                Check.due("P23 byte " + i + " of " + words[s], house.where(s, 10 + i), words[s].charAt(i));
            }
            Check.due("P23 behind its last byte", house.where(s, 10 + bytes), NONE);
            Check.due("P23 far behind it", house.where(s, 30), NONE);
        }
    }
}
