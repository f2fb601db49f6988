/** The edges of promises 12 to 17, and of what Terms say of senses, joining, parting and dropping. */
final class SenseEdges {
    private static final int NONE = SlipHouse.NONE;
    private static final int MIN = Integer.MIN_VALUE;
    private static final int MAX = Integer.MAX_VALUE;
    private static final Houses.Calls TREE = SenseEdges::tree;

    private SenseEdges() {
    }

    static void run() {
        senseNoSuchEntry();
        senseNoSuchSense();
        senseForty();
        senseLowestThatIsFree();
        senseAtAnyDepth();
        putNoSuchSlip();
        putNoSuchPlace();
        putItStandsThere();
        putToAllPlaces();
        moveNoSuch();
        moveUnderItself();
        moveItIsThere();
        moveWithAllUnderIt();
        joinNoSuchTwo();
        joinOfTwoEntries();
        joinUnder();
        joinBringsSlipsAndSenses();
        joinBringsAllJustUnder();
        joinAndPointers();
        partNoneSuch();
        partForty();
        partBeside();
        dropNoneSuch();
        dropWithSlips();
        dropWithSensesUnder();
        dropAndPointers();
    }

    /**
     * Books 0 to 3 of 1500-1510, 1505-1520, 1600, 1550-1560; senses 0 and 3 of entry 0, 1 and 2 under 0, 4 under 2;
     * sense 5 of entry 1; slip 0 of book 1 in sense 1, 1 of book 0 in the heap of 0, 2 of book 2 loose, 3 of book 3
     * in sense 4; pointers 0 to 5 and 5 to 4; an edition; a print; letters on the tape.
     */
    private static void tree(SlipHouse house) {
        house.book(1500, 1510);
        house.book(1505, 1520);
        house.book(1600, 1600);
        house.book(1550, 1560);
        Houses.entry(house, "cat", 1, 2000);
        Houses.entry(house, "dog", 1, 2000);
        house.sense(0, NONE);
        Houses.senses(house, 2, 0, 0);
        house.sense(0, NONE);
        house.sense(0, 2);
        house.sense(1, NONE);
        Houses.slipIn(house, 1, 0, 1);
        Houses.slipIn(house, 0, 0, NONE);
        Houses.slip(house, 2, "cow");
        Houses.slipIn(house, 3, 0, 4);
        house.point(0, 5);
        house.point(5, 4);
        house.edition();
        house.print(1);
        Houses.feed(house, "cow");
    }

    /** Two entries, so many senses of the first one, all at the top. */
    private static Houses.Calls senses(int senses) {
        return house -> {
            Houses.entry(house, "a", 1, 2);
            Houses.entry(house, "b", 1, 2);
            Houses.senses(house, senses, 0, NONE);
        };
    }

    private static Houses.Calls twelveEntries() {
        return house -> {
            for (int e = 0; e < 12; e++) {
                Houses.entry(house, "a", 1, 2);
            }
        };
    }

    /** P12: no such entry. */
    private static void senseNoSuchEntry() {
        Edge.none("P12 entry -1", TREE, h -> h.sense(-1, NONE));
        Edge.some("P12 entry 0", TREE, h -> h.sense(0, NONE), 6);
        Edge.some("P12 entry 1", TREE, h -> h.sense(1, NONE), 6);
        Edge.none("P12 entry 2", TREE, h -> h.sense(2, NONE));
        Edge.none("P12 the least int", TREE, h -> h.sense(MIN, NONE));
        Edge.none("P12 the greatest int", TREE, h -> h.sense(MAX, NONE));
        Edge.some("P12 entry 11", twelveEntries(), h -> h.sense(11, NONE), 0);
        Edge.none("P12 entry 12", twelveEntries(), h -> h.sense(12, NONE));
    }

    /** P12: no such sense to be under: none, or of another entry. */
    private static void senseNoSuchSense() {
        Edge.some("P12 under 0", TREE, h -> h.sense(0, 0), 6);
        Edge.some("P12 under 4", TREE, h -> h.sense(0, 4), 6);
        Edge.none("P12 under 5 of another entry", TREE, h -> h.sense(0, 5));
        Edge.some("P12 under 5", TREE, h -> h.sense(1, 5), 6);
        Edge.none("P12 under 0 of another entry", TREE, h -> h.sense(1, 0));
        Edge.none("P12 under 6", TREE, h -> h.sense(0, 6));
        Edge.none("P12 under -2", TREE, h -> h.sense(0, -2));
        Edge.none("P12 under 40", TREE, h -> h.sense(0, 40));
        Edge.none("P12 under the least int", TREE, h -> h.sense(0, MIN));
        Edge.none("P12 under the greatest int", TREE, h -> h.sense(0, MAX));
        Edge.none("P12 under one that is dropped", TREE.then(h -> h.drop(3)), h -> h.sense(0, 3));
        Edge.none("P12 under one that is joined", TREE.then(h -> h.join(2, 3)), h -> h.sense(0, 2));
        Edge.none("P12 no such entry, no such sense", TREE, h -> h.sense(2, 6));
        Edge.none("P12 entry NONE under a sense that is free", TREE, h -> h.sense(NONE, 6));
    }

    /** P12: 40 are there; Terms: senses 0 to 39. */
    private static void senseForty() {
        Edge.some("P12 the 40th at the top", senses(39), h -> h.sense(1, NONE), 39);
        Edge.some("P12 the 40th under 38", senses(39), h -> h.sense(0, 38), 39);
        Edge.none("P12 the 41st at the top", senses(40), h -> h.sense(1, NONE));
        Edge.none("P12 the 41st under 39", senses(40), h -> h.sense(0, 39));
        Check.due("P12 senses", Houses.made(senses(40)).count(4), 40);
    }

    /** P12: the lowest number that is free. */
    private static void senseLowestThatIsFree() {
        Houses.Calls holes = senses(40).then(h -> h.drop(39)).then(h -> h.drop(0)).then(h -> h.join(17, 3));
        Check.due("P12 senses", Houses.made(holes).count(4), 37);
        SlipHouse house = Houses.made(holes);
        Check.due("P12 the lowest of three", house.sense(1, NONE), 0);
        Check.due("P12 the lowest of two", house.sense(0, 38), 17);
        Check.due("P12 the last one", house.sense(0, 17), 39);
        Check.due("P12 none is free", house.sense(0, NONE), NONE);
        Check.due("P12 the entry of 0", house.told(0, 0), 1);
        Check.due("P12 what 17 is under", house.told(17, 1), 38);
        Check.due("P12 what 39 is under", house.told(39, 1), 17);
    }

    /** Terms: a sense is at its entry's top or under another sense of it, at any depth. */
    private static void senseAtAnyDepth() {
        SlipHouse house = new SlipHouse();
        house.book(1, 2000);
        Houses.entry(house, "a", 1, 2);
        for (int t = 0; t < 40; t++) {
            Check.due("P12 sense " + t, house.sense(0, t - 1), t);
            Check.due("P12 its depth", house.told(t, 11), t + 1);
        }
        Houses.slipIn(house, 0, 0, 39);
        Check.due("P20 a witness at any depth", house.told(0, 3), 1);
        Check.due("P14 0 under what is deepest under it", house.move(0, 39), false);
        Check.due("P15 0 into what is deepest under it", house.join(0, 39), false);
        Check.due("P14 39 to the top", house.move(39, NONE), true);
        Check.due("P20 no witness under 0", house.told(0, 3), 0);
        Check.due("P14 0 under 39", house.move(0, 39), true);
        Check.due("P20 depth of 38", house.told(38, 11), 40);
    }

    /** P13: no such slip. */
    private static void putNoSuchSlip() {
        Edge.no("P13 slip -1", TREE, h -> h.put(-1, 0, 0));
        Edge.yes("P13 slip 0", TREE, h -> h.put(0, 0, 0));
        Edge.yes("P13 slip 3", TREE, h -> h.put(3, 0, 0));
        Edge.no("P13 slip 4", TREE, h -> h.put(4, 0, 0));
        Edge.no("P13 slip 4 to a heap", TREE, h -> h.put(4, 0, NONE));
        Edge.no("P13 slip 4 loose", TREE, h -> h.put(4, NONE, NONE));
        Edge.no("P13 slip -1 loose", TREE, h -> h.put(-1, NONE, NONE));
        Edge.no("P13 the least int", TREE, h -> h.put(MIN, 0, 0));
        Edge.no("P13 the greatest int", TREE, h -> h.put(MAX, 0, 0));
        Houses.Calls full = h -> {
            h.book(1, 2);
            Houses.entry(h, "a", 1, 2);
            Houses.slips(h, 120, 0, "b");
        };
        Edge.yes("P13 slip 119", full, h -> h.put(119, 0, NONE));
        Edge.no("P13 slip 120", full, h -> h.put(120, 0, NONE));
    }

    /** P13: no such entry or sense, t of another entry than e. */
    private static void putNoSuchPlace() {
        Edge.no("P13 entry -2", TREE, h -> h.put(0, -2, NONE));
        Edge.no("P13 entry 2", TREE, h -> h.put(0, 2, NONE));
        Edge.yes("P13 entry 1", TREE, h -> h.put(0, 1, NONE));
        Edge.no("P13 entry the greatest int", TREE, h -> h.put(0, MAX, NONE));
        Edge.no("P13 entry the least int", TREE, h -> h.put(0, MIN, NONE));
        Edge.yes("P13 sense 5 of entry 1", TREE, h -> h.put(0, 1, 5));
        Edge.no("P13 sense 5 of entry 0", TREE, h -> h.put(0, 0, 5));
        Edge.no("P13 sense 0 of entry 1", TREE, h -> h.put(0, 1, 0));
        Edge.no("P13 sense 6", TREE, h -> h.put(0, 0, 6));
        Edge.no("P13 sense 39", TREE, h -> h.put(0, 0, 39));
        Edge.no("P13 sense 40", TREE, h -> h.put(0, 0, 40));
        Edge.no("P13 sense -2", TREE, h -> h.put(0, 0, -2));
        Edge.no("P13 sense the least int", TREE, h -> h.put(0, 0, MIN));
        Edge.no("P13 sense the greatest int", TREE, h -> h.put(0, 0, MAX));
        Edge.no("P13 a sense and no entry", TREE, h -> h.put(0, NONE, 0));
        Edge.no("P13 the sense in which it stands, and no entry", TREE, h -> h.put(0, NONE, 1));
        Edge.no("P13 a sense that is free, and no entry", TREE, h -> h.put(0, NONE, 6));
        Edge.no("P13 a sense that is dropped", TREE.then(h -> h.drop(3)), h -> h.put(0, 0, 3));
        Edge.yes("P13 entry 11", twelveEntries().then(SenseEdges::oneSlip), h -> h.put(0, 11, NONE));
        Edge.no("P13 entry 12", twelveEntries().then(SenseEdges::oneSlip), h -> h.put(0, 12, NONE));
        Edge.yes("P13 sense 39 of 40", senses(40).then(SenseEdges::oneSlip), h -> h.put(0, 0, 39));
        Edge.no("P13 sense 40 of 40", senses(40).then(SenseEdges::oneSlip), h -> h.put(0, 0, 40));
    }

    private static void oneSlip(SlipHouse house) {
        house.book(1, 2);
        Houses.slip(house, 0, "x");
    }

    /** P13: it stands there. */
    private static void putItStandsThere() {
        Edge.no("P13 in its sense", TREE, h -> h.put(0, 0, 1));
        Edge.yes("P13 in the one above", TREE, h -> h.put(0, 0, 0));
        Edge.yes("P13 in the heap of its entry", TREE, h -> h.put(0, 0, NONE));
        Edge.no("P13 in its heap", TREE, h -> h.put(1, 0, NONE));
        Edge.yes("P13 in a sense of its entry", TREE, h -> h.put(1, 0, 3));
        Edge.yes("P13 in another heap", TREE, h -> h.put(1, 1, NONE));
        Edge.no("P13 loose already", TREE, h -> h.put(2, NONE, NONE));
        Edge.yes("P13 loose from a heap", TREE, h -> h.put(1, NONE, NONE));
        Edge.yes("P13 loose from a sense", TREE, h -> h.put(0, NONE, NONE));
    }

    /** P13: what it says of where a slip stands then. */
    private static void putToAllPlaces() {
        int[][] places = {{0, 0}, {0, NONE}, {1, 5}, {1, NONE}, {NONE, NONE}, {0, 4}, {1, NONE}, {0, NONE}, {1, 5}};
        SlipHouse house = Houses.made(TREE);
        for (int[] place : places) {
            String what = "P13 entry " + place[0] + ", sense " + place[1];
            Check.due(what, house.put(2, place[0], place[1]), true);
            Check.due(what + ": entry", house.where(2, 0), place[0]);
            Check.due(what + ": sense", house.where(2, 1), place[1]);
            Check.due(what + ": loose slips", house.count(7), place[0] == NONE ? 1 : 0);
            Check.due(what + ": again", house.put(2, place[0], place[1]), false);
        }
    }

    /** P14: no such senses, or of two entries. */
    private static void moveNoSuch() {
        Edge.no("P14 sense -1", TREE, h -> h.move(-1, 0));
        Edge.no("P14 sense -1 to the top", TREE, h -> h.move(-1, NONE));
        Edge.no("P14 sense 6", TREE, h -> h.move(6, 0));
        Edge.no("P14 sense 6 to the top", TREE, h -> h.move(6, NONE));
        Edge.no("P14 sense 40", TREE, h -> h.move(40, 0));
        Edge.yes("P14 under 3", TREE, h -> h.move(1, 3));
        Edge.no("P14 under 6", TREE, h -> h.move(1, 6));
        Edge.no("P14 under 40", TREE, h -> h.move(1, 40));
        Edge.no("P14 under -2", TREE, h -> h.move(1, -2));
        Edge.no("P14 under the least int", TREE, h -> h.move(1, MIN));
        Edge.no("P14 under the greatest int", TREE, h -> h.move(1, MAX));
        Edge.no("P14 the least int", TREE, h -> h.move(MIN, 0));
        Edge.no("P14 the greatest int", TREE, h -> h.move(MAX, 0));
        Edge.no("P14 under a sense of another entry", TREE, h -> h.move(1, 5));
        Edge.no("P14 a sense of another entry", TREE, h -> h.move(5, 3));
        Edge.no("P14 under one that is dropped", TREE.then(h -> h.drop(3)), h -> h.move(1, 3));
        Edge.yes("P14 39 under 38", senses(40), h -> h.move(39, 38));
        Edge.no("P14 39 under 40", senses(40), h -> h.move(39, 40));
    }

    /** P14: b is a or under it. */
    private static void moveUnderItself() {
        Edge.no("P14 under itself", TREE, h -> h.move(1, 1));
        Edge.no("P14 one at the top under itself", TREE, h -> h.move(0, 0));
        Edge.no("P14 under one just under it", TREE, h -> h.move(0, 2));
        Edge.no("P14 under one deep under it", TREE, h -> h.move(0, 4));
        Edge.yes("P14 under one that is no longer under it", TREE.then(h -> h.move(4, 3)), h -> h.move(0, 4));
        Edge.yes("P14 under one beside it", TREE, h -> h.move(2, 1));
        Edge.yes("P14 under one under the one beside it", TREE, h -> h.move(1, 4));
        Edge.yes("P14 under one above what it is under", TREE, h -> h.move(4, 0));
    }

    /** P14: it is there. */
    private static void moveItIsThere() {
        Edge.no("P14 under what it is under", TREE, h -> h.move(1, 0));
        Edge.no("P14 deep under what it is under", TREE, h -> h.move(4, 2));
        Edge.no("P14 to the top, where it is", TREE, h -> h.move(3, NONE));
        Edge.no("P14 to the top, with senses under it", TREE, h -> h.move(0, NONE));
        Edge.yes("P14 to the top", TREE, h -> h.move(1, NONE));
        Edge.yes("P14 from deep to the top", TREE, h -> h.move(4, NONE));
        Edge.no("P14 to the top, again", TREE.then(h -> h.move(4, NONE)), h -> h.move(4, NONE));
    }

    /** P14: it goes with all under it, and with its slips and pointers. */
    private static void moveWithAllUnderIt() {
        SlipHouse house = Houses.made(TREE);
        Check.due("P14 2 under 3", house.move(2, 3), true);
        Check.due("P14 what 2 is under", house.told(2, 1), 3);
        Check.due("P14 what 4 is under", house.told(4, 1), 2);
        Check.due("P14 depth of 4", house.told(4, 11), 3);
        Check.due("P14 witnesses of 0", house.told(0, 3), 1);
        Check.due("P14 witnesses of 3", house.told(3, 3), 1);
        Check.due("P14 the slip in 4", house.where(3, 1), 4);
        Check.due("P14 the pointer to 4", Houses.printed(house, 1), "dog: 1(0)>cat 2.1.1");
        Check.due("P14 pointers", house.count(5), 2);
        Check.due("P14 loose ones", house.count(6), 0);
        Check.due("P14 senses", house.count(4), 6);
    }

    /** P15: no such two. */
    private static void joinNoSuchTwo() {
        Edge.yes("P15 1 into 3", TREE, h -> h.join(1, 3));
        Edge.no("P15 1 into 6", TREE, h -> h.join(1, 6));
        Edge.no("P15 6 into 1", TREE, h -> h.join(6, 1));
        Edge.no("P15 1 into NONE", TREE, h -> h.join(1, NONE));
        Edge.no("P15 NONE into 1", TREE, h -> h.join(NONE, 1));
        Edge.no("P15 one into itself", TREE, h -> h.join(1, 1));
        Edge.no("P15 one without slips into itself", TREE, h -> h.join(3, 3));
        Edge.no("P15 none into itself", TREE, h -> h.join(6, 6));
        Edge.no("P15 1 into 40", TREE, h -> h.join(1, 40));
        Edge.no("P15 40 into 1", TREE, h -> h.join(40, 1));
        Edge.no("P15 the least int", TREE, h -> h.join(MIN, 1));
        Edge.no("P15 into the greatest int", TREE, h -> h.join(1, MAX));
        Edge.no("P15 one that is gone", TREE.then(h -> h.join(1, 3)), h -> h.join(1, 3));
        Edge.no("P15 into one that is gone", TREE.then(h -> h.join(1, 3)), h -> h.join(3, 1));
        Edge.yes("P15 39 into 38", senses(40), h -> h.join(39, 38));
    }

    /** P15: of two entries. */
    private static void joinOfTwoEntries() {
        Edge.no("P15 3 into 5 of another entry", TREE, h -> h.join(3, 5));
        Edge.no("P15 5 into 3 of another entry", TREE, h -> h.join(5, 3));
        Edge.yes("P15 two of entry 1", TREE.then(h -> h.sense(1, NONE)), h -> h.join(6, 5));
    }

    /** P15: b is under a. */
    private static void joinUnder() {
        Edge.no("P15 into one just under it", TREE, h -> h.join(0, 1));
        Edge.no("P15 into one deep under it", TREE, h -> h.join(0, 4));
        Edge.yes("P15 into what it is under", TREE, h -> h.join(1, 0));
        Edge.yes("P15 into what it is deep under", TREE, h -> h.join(4, 0));
        Edge.yes("P15 into one under the one beside it", TREE, h -> h.join(1, 4));
        Edge.yes("P15 into one that is no longer under it", TREE.then(h -> h.move(4, NONE)), h -> h.join(0, 4));
    }

    /** Terms: its slips and the senses just under it come to b, a is gone. */
    private static void joinBringsSlipsAndSenses() {
        SlipHouse house = Houses.made(TREE.then(h -> h.put(2, 0, 0)).then(h -> h.put(1, 0, 2)));
        Check.due("P15 0 into 3", house.join(0, 3), true);
        int[] senses = {1, 2, 3, 4};
        for (int s = 0; s < 4; s++) {
            Check.due("P15 sense of slip " + s, house.where(s, 1), senses[s]);
            Check.due("P15 entry of slip " + s, house.where(s, 0), 0);
        }
        int[] parents = {NONE, 3, 3, NONE, 2, NONE};
        int[] entries = {NONE, 0, 0, 0, 0, 1};
        for (int t = 0; t < 6; t++) {
            Check.due("P15 what " + t + " is under", house.told(t, 1), parents[t]);
            Check.due("P15 entry of " + t, house.told(t, 0), entries[t]);
        }
        Check.due("P15 senses", house.count(4), 5);
        Check.due("P15 senses just under 3", house.told(3, 10), 2);
        Check.due("P15 slips of 3", house.told(3, 2), 1);
        Check.due("P15 witnesses of 3", house.told(3, 3), 4);
        SlipHouse up = Houses.made(TREE);
        Check.due("P15 2 into 0", up.join(2, 0), true);
        Check.due("P15 what 4 is under then", up.told(4, 1), 0);
        Check.due("P15 senses just under 0", up.told(0, 10), 2);
        SlipHouse down = Houses.made(TREE);
        Check.due("P15 1 into 4", down.join(1, 4), true);
        Check.due("P15 what 4 is under still", down.told(4, 1), 2);
        Check.due("P15 slips of 4", down.told(4, 2), 2);
    }

    /** Terms: all senses just under it come to b, the lowest number and the highest, and only those. */
    private static void joinBringsAllJustUnder() {
        Houses.Calls making = senses(40).then(h -> {
            h.move(0, 20);
            h.move(39, 20);
            h.move(5, 39);
            h.move(6, 21);
        });
        SlipHouse house = Houses.made(making);
        Check.due("P20 just under 20", house.told(20, 10), 2);
        Check.due("P17 20 with 0 and 39 under it", house.drop(20), false);
        Check.due("P15 20 into 21", house.join(20, 21), true);
        int[] moved = {0, 39, 6};
        for (int t : moved) {
            Check.due("P15 what " + t + " is under", house.told(t, 1), 21);
        }
        Check.due("P15 what 5 is under", house.told(5, 1), 39);
        Check.due("P15 what 19 is under", house.told(19, 1), NONE);
        Check.due("P20 just under 21", house.told(21, 10), 3);
        Edge.no("P17 with 0 under it alone", making.then(h -> h.move(39, NONE)), h -> h.drop(20));
        Edge.no("P17 with 39 under it alone", making.then(h -> h.move(0, NONE)), h -> h.drop(20));
    }

    /** Terms: pointers to a are loose, those from a are gone; all others stay. */
    private static void joinAndPointers() {
        Houses.Calls pointing = senses(5).then(h -> {
            h.point(0, 1);
            h.point(1, 0);
            h.point(0, 2);
            h.point(2, 0);
            h.point(1, 2);
            h.point(2, 3);
            h.point(0, 4);
            h.point(3, 1);
        });
        SlipHouse house = Houses.made(pointing);
        Check.due("P15 0 into 1", house.join(0, 1), true);
        Check.due("P15 pointers", house.count(5), 5);
        Check.due("P15 loose ones", house.count(6), 2);
        Check.due("P15 print", Houses.printed(house, 0), "a: 1(0)>a 2 2(0)>a 3 3(0)>a 1 4(0)");
        Check.due("P15 those behind have numbers lower", house.lead(2, 4), false);
        Check.due("P15 the first loose one", house.lead(0, 4), true);
        Check.due("P15 the second loose one", house.lead(1, 4), true);
        Check.due("P15 print then", Houses.printed(house, 0), "a: 1(0)>a 4>a 2 2(0)>a 4>a 3 3(0)>a 1 4(0)");
        Houses.Calls again = pointing.then(h -> h.join(0, 1)).then(h -> h.sense(0, NONE));
        SlipHouse renewed = Houses.made(again);
        Check.due("P15 the number is given anew", renewed.told(0, 0), 0);
        Check.due("P15 the pointers stay loose", renewed.count(6), 2);
        Check.due("P15 print with the new sense", Houses.printed(renewed, 0),
            "a: 1(0) 2(0)>a 3 3(0)>a 4 4(0)>a 2 5(0)");
    }

    /** P16: none such. */
    private static void partNoneSuch() {
        Edge.none("P16 -1", TREE, h -> h.part(-1));
        Edge.some("P16 0", TREE, h -> h.part(0), 6);
        Edge.some("P16 5", TREE, h -> h.part(5), 6);
        Edge.none("P16 6", TREE, h -> h.part(6));
        Edge.none("P16 39", TREE, h -> h.part(39));
        Edge.none("P16 40", TREE, h -> h.part(40));
        Edge.none("P16 the least int", TREE, h -> h.part(MIN));
        Edge.none("P16 the greatest int", TREE, h -> h.part(MAX));
        Edge.none("P16 one that is dropped", TREE.then(h -> h.drop(3)), h -> h.part(3));
        Edge.some("P16 the lowest that is free", TREE.then(h -> h.drop(3)), h -> h.part(4), 3);
    }

    /** P16: 40 are there. */
    private static void partForty() {
        Edge.some("P16 with 39", senses(39), h -> h.part(38), 39);
        Edge.none("P16 with 40", senses(40), h -> h.part(38));
        Edge.some("P16 with a number free", senses(40).then(h -> h.drop(21)), h -> h.part(39), 21);
    }

    /** Terms: a new sense just beside a. */
    private static void partBeside() {
        int[] parts = {0, 1, 4, 5};
        for (int a : parts) {
            SlipHouse house = Houses.made(TREE);
            int[] before = new int[6];
            for (int what = 0; what < 6; what++) {
                before[what] = house.told(a, what);
            }
            Check.due("P16 part " + a, house.part(a), 6);
            Check.due("P16 its entry", house.told(6, 0), before[0]);
            Check.due("P16 what it is under", house.told(6, 1), before[1]);
            Check.due("P16 its slips", house.told(6, 2), 0);
            Check.due("P16 senses under it", house.told(6, 10), 0);
            for (int what = 0; what < 6; what++) {
                Check.due("P16 " + a + " keeps what " + what, house.told(a, what), before[what]);
            }
            Check.due("P16 pointers", house.count(5), 2);
            Check.due("P16 loose ones", house.count(6), 0);
            Check.due("P16 senses", house.count(4), 7);
        }
    }

    /** P17: none such. */
    private static void dropNoneSuch() {
        Edge.yes("P17 3", TREE, h -> h.drop(3));
        Edge.yes("P17 5", TREE, h -> h.drop(5));
        Edge.no("P17 6", TREE, h -> h.drop(6));
        Edge.no("P17 -1", TREE, h -> h.drop(-1));
        Edge.no("P17 39", TREE, h -> h.drop(39));
        Edge.no("P17 40", TREE, h -> h.drop(40));
        Edge.no("P17 the least int", TREE, h -> h.drop(MIN));
        Edge.no("P17 the greatest int", TREE, h -> h.drop(MAX));
        Edge.no("P17 one that is dropped", TREE.then(h -> h.drop(3)), h -> h.drop(3));
        Edge.yes("P17 39 of 40", senses(40), h -> h.drop(39));
        Edge.no("P17 40 of 40", senses(40), h -> h.drop(40));
    }

    /** P17, Terms: it can be dropped if it has no slips of its own. */
    private static void dropWithSlips() {
        Edge.no("P17 with a slip", TREE, h -> h.drop(1));
        Edge.yes("P17 when its slip is in the heap", TREE.then(h -> h.put(0, 0, NONE)), h -> h.drop(1));
        Edge.yes("P17 when its slip is loose", TREE.then(h -> h.put(0, NONE, NONE)), h -> h.drop(1));
        Edge.no("P17 with a slip, and slip 1 elsewhere", TREE.then(h -> h.put(1, 1, NONE)), h -> h.drop(1));
        Edge.no("P17 with a slip, and slip 1 loose", TREE.then(h -> h.put(1, NONE, NONE)), h -> h.drop(1));
        Edge.no("P17 with another slip", TREE.then(h -> h.put(2, 0, 3)), h -> h.drop(3));
        SlipHouse house = Houses.made(TREE.then(h -> h.put(0, 0, NONE)).then(h -> h.drop(1)));
        Check.due("P17 it is gone", house.told(1, 0), NONE);
        Check.due("P17 senses", house.count(4), 5);
        Check.due("P17 senses just under 0", house.told(0, 10), 1);
        Check.due("P17 where the slip stood it stands", house.where(0, 0), 0);
    }

    /** P17, Terms: and none is under it. */
    private static void dropWithSensesUnder() {
        Houses.Calls empty = TREE.then(h -> h.put(3, 0, NONE));
        Edge.no("P17 with a sense under it", empty, h -> h.drop(2));
        Edge.yes("P17 the one under it", empty, h -> h.drop(4));
        Edge.yes("P17 when that is dropped", empty.then(h -> h.drop(4)), h -> h.drop(2));
        Edge.yes("P17 when that is moved", empty.then(h -> h.move(4, 0)), h -> h.drop(2));
        Edge.no("P17 with a slip under it", TREE, h -> h.drop(2));
        Edge.no("P17 one at the top with senses under it", TREE, h -> h.drop(0));
    }

    /** Terms: of a sense that is dropped, too, pointers to it are loose, those from it are gone. */
    private static void dropAndPointers() {
        SlipHouse house = Houses.made(senses(4).then(h -> {
            h.point(1, 3);
            h.point(0, 1);
            h.point(2, 1);
            h.point(1, 0);
            h.point(2, 3);
        }));
        Check.due("P17 drop 1", house.drop(1), true);
        Check.due("P17 pointers", house.count(5), 3);
        Check.due("P17 loose ones", house.count(6), 2);
        Check.due("P17 print", Houses.printed(house, 0), "a: 1(0) 2(0)>a 3 3(0)");
        Check.due("P17 the number is given anew", house.sense(1, NONE), 1);
        Check.due("P17 the pointers stay loose", house.count(6), 2);
        Check.due("P17 no pointer leads to the new one", house.edition(), NONE);
        Check.due("P17 the first loose one", house.lead(0, 1), true);
        Check.due("P17 the second loose one", house.lead(1, 1), true);
        Check.due("P17 none is loose", house.count(6), 0);
        Check.due("P17 print then", Houses.printed(house, 0), "a: 1(0)>b 1 2(0)>b 1>a 3 3(0)");
    }
}
