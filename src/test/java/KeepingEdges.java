/** The edges of promises 18, 19 and 24 to 29, and of what Terms say of pointers, editions and the print. */
final class KeepingEdges {
    private static final int NONE = SlipHouse.NONE;
    private static final int MIN = Integer.MIN_VALUE;
    private static final int MAX = Integer.MAX_VALUE;
    private static final Houses.Calls TREE = KeepingEdges::tree;
    private static final Houses.Calls LOOSE = TREE.then(h -> h.drop(2));

    private KeepingEdges() {
    }

    static void run() {
        pointNoSuchTwo();
        pointTwenty();
        pointToAnyEntry();
        leadNotLoose();
        leadNoSuchSense();
        leadFromItself();
        leadGone();
        leadFromNowOn();
        editionLoosePointer();
        editionEight();
        editionKeeps();
        asNoSuchOnes();
        asWhat();
        asNotThere();
        differNoSuchOnes();
        differIndex();
        differHowMany();
        differStandsNowhere();
        printNoneSuch();
        octetNone();
        octetOfTheLatestPrint();
        countWhat();
        countHeaps();
        countAtTheLimits();
    }

    /**
     * Entry 0 with senses 0, 1 under 0, 2; entry 1 with sense 3; slip 0 in sense 1, 1 in the heap of 1, 2 loose;
     * pointers 0 to 3, 0 to 2 and 3 to 1; an edition without slip 2; a print; letters on the tape.
     */
    private static void tree(SlipHouse house) {
        house.book(1500, 1510);
        house.book(1601, 1601);
        Houses.entry(house, "cat", 1, 2000);
        Houses.entry(house, "dog", 1, 2000);
        house.sense(0, NONE);
        house.sense(0, 0);
        house.sense(0, NONE);
        house.sense(1, NONE);
        Houses.slipIn(house, 0, 0, 1);
        Houses.slipIn(house, 1, 1, NONE);
        house.edition();
        Houses.slip(house, 1, "cow");
        house.point(0, 3);
        house.point(0, 2);
        house.point(3, 1);
        house.print(1);
        Houses.feed(house, "cow");
    }

    /** P18: no such two senses. */
    private static void pointNoSuchTwo() {
        Edge.some("P18 0 to 1", TREE, h -> h.point(0, 1), 3);
        Edge.some("P18 1 to 0", TREE, h -> h.point(1, 0), 3);
        Edge.some("P18 0 to 3 again", TREE, h -> h.point(0, 3), 3);
        Edge.none("P18 0 to 4", TREE, h -> h.point(0, 4));
        Edge.none("P18 4 to 0", TREE, h -> h.point(4, 0));
        Edge.none("P18 0 to -1", TREE, h -> h.point(0, -1));
        Edge.none("P18 -1 to 0", TREE, h -> h.point(-1, 0));
        Edge.none("P18 0 to 0", TREE, h -> h.point(0, 0));
        Edge.none("P18 4 to 4", TREE, h -> h.point(4, 4));
        Edge.none("P18 0 to 40", TREE, h -> h.point(0, 40));
        Edge.none("P18 40 to 0", TREE, h -> h.point(40, 0));
        Edge.none("P18 the least int", TREE, h -> h.point(MIN, 0));
        Edge.none("P18 the greatest int", TREE, h -> h.point(0, MAX));
        Edge.none("P18 to one that is dropped", LOOSE, h -> h.point(0, 2));
        Edge.none("P18 from one that is dropped", LOOSE, h -> h.point(2, 0));
        Houses.Calls full = h -> {
            Houses.entry(h, "a", 1, 2);
            Houses.senses(h, 40, 0, NONE);
        };
        Edge.some("P18 39 to 38", full, h -> h.point(39, 38), 0);
        Edge.none("P18 39 to 40", full, h -> h.point(39, 40));
    }

    private static Houses.Calls pointers(int pointers) {
        return house -> {
            Houses.entry(house, "a", 1, 2);
            Houses.senses(house, 4, 0, NONE);
            for (int p = 0; p < pointers; p++) {
                house.point(p % 2, 2);
            }
        };
    }

    /** P18: 20 are there; Terms: pointers, 20 at most. */
    private static void pointTwenty() {
        Edge.some("P18 the 20th pointer", pointers(19), h -> h.point(3, 0), 19);
        Edge.none("P18 the 21st pointer", pointers(20), h -> h.point(3, 0));
        Edge.none("P18 20 are there, all loose", pointers(20).then(h -> h.drop(2)), h -> h.point(3, 0));
        Edge.some("P18 one is gone", pointers(20).then(h -> h.drop(2)).then(h -> h.lead(19, NONE)),
            h -> h.point(3, 0), 19);
        Edge.some("P18 ten are gone", pointers(20).then(h -> h.drop(1)), h -> h.point(3, 0), 10);
        SlipHouse house = Houses.made(pointers(20).then(h -> h.drop(1)).then(h -> h.point(3, 0)));
        Check.due("P18 the new one is the last", Houses.printed(house, 0),
            "a: 1(0)" + ">a 2".repeat(10) + " 2(0) 3(0)>a 1");
    }

    /** Terms: from a sense to another one, of any entry. */
    private static void pointToAnyEntry() {
        SlipHouse house = Houses.made(TREE);
        house.point(1, 3);
        house.point(1, 0);
        Check.due("P27 to both entries", Houses.printed(house, 0),
            "cat: 1(1500-1510,1)>dog 1>cat 2 1.1(1500-1510,1)>dog 1>cat 1 2(0)");
        Check.due("P27 from the other one", Houses.printed(house, 1), "dog: 1(0)>cat 1.1 +1");
    }

    /** P19: it is none, or not loose. */
    private static void leadNotLoose() {
        Edge.yes("P19 the loose one", LOOSE, h -> h.lead(1, 1));
        Edge.no("P19 one that is not loose", LOOSE, h -> h.lead(0, 1));
        Edge.no("P19 another one that is not loose", LOOSE, h -> h.lead(2, 0));
        Edge.no("P19 one that is not loose, gone", LOOSE, h -> h.lead(0, NONE));
        Edge.no("P19 pointer -1", LOOSE, h -> h.lead(-1, 1));
        Edge.no("P19 pointer 3", LOOSE, h -> h.lead(3, 1));
        Edge.no("P19 pointer 3, gone", LOOSE, h -> h.lead(3, NONE));
        Edge.no("P19 pointer 20", LOOSE, h -> h.lead(20, 1));
        Edge.no("P19 the least int", LOOSE, h -> h.lead(MIN, 1));
        Edge.no("P19 the greatest int", LOOSE, h -> h.lead(MAX, 1));
        Edge.no("P19 loose no longer", LOOSE.then(h -> h.lead(1, 1)), h -> h.lead(1, 3));
        Edge.no("P19 loose no longer, gone", LOOSE.then(h -> h.lead(1, 1)), h -> h.lead(1, NONE));
        Houses.Calls twenty = pointers(20).then(h -> h.drop(2));
        Edge.yes("P19 pointer 19 of 20", twenty, h -> h.lead(19, 3));
        Edge.no("P19 pointer 20 of 20", twenty, h -> h.lead(20, 3));
    }

    /** P19: no such sense. */
    private static void leadNoSuchSense() {
        Edge.yes("P19 to 1", LOOSE, h -> h.lead(1, 1));
        Edge.yes("P19 to 3 of another entry", LOOSE, h -> h.lead(1, 3));
        Edge.no("P19 to the one that is dropped", LOOSE, h -> h.lead(1, 2));
        Edge.no("P19 to 4", LOOSE, h -> h.lead(1, 4));
        Edge.no("P19 to -2", LOOSE, h -> h.lead(1, -2));
        Edge.no("P19 to 39", LOOSE, h -> h.lead(1, 39));
        Edge.no("P19 to 40", LOOSE, h -> h.lead(1, 40));
        Edge.no("P19 to the least int", LOOSE, h -> h.lead(1, MIN));
        Edge.no("P19 to the greatest int", LOOSE, h -> h.lead(1, MAX));
        Edge.yes("P19 to the number given anew", LOOSE.then(h -> h.sense(1, NONE)), h -> h.lead(1, 2));
    }

    /** P19: or that from which it leads. */
    private static void leadFromItself() {
        Edge.no("P19 to 0, from which it leads", LOOSE, h -> h.lead(1, 0));
        Edge.yes("P19 to the one under it", LOOSE, h -> h.lead(1, 1));
        Houses.Calls other = TREE.then(h -> h.point(1, 2)).then(h -> h.drop(2));
        Edge.yes("P19 another pointer to 0", other, h -> h.lead(3, 0));
        Edge.no("P19 another pointer to 1, from which it leads", other, h -> h.lead(3, 1));
    }

    /** P19: it is gone, those behind it get numbers 1 lower. */
    private static void leadGone() {
        Houses.Calls four = h -> {
            Houses.entry(h, "a", 1, 2);
            Houses.senses(h, 6, 0, NONE);
            h.point(0, 4);
            h.point(1, 5);
            h.point(2, 4);
            h.point(3, 5);
            h.drop(5);
            h.drop(4);
        };
        Edge.yes("P19 the second of four goes", four, h -> h.lead(1, NONE));
        SlipHouse house = Houses.made(four.then(h -> h.lead(1, NONE)));
        Check.due("P19 pointers", house.count(5), 3);
        Check.due("P19 loose ones", house.count(6), 3);
        Check.due("P19 number 0 is from 0 still", house.lead(0, 0), false);
        Check.due("P19 number 1 is from 2", house.lead(1, 2), false);
        Check.due("P19 number 2 is from 3", house.lead(2, 3), false);
        Check.due("P19 number 3 is none", house.lead(3, 0), false);
        Check.due("P19 the last goes", house.lead(2, NONE), true);
        Check.due("P19 the first goes", house.lead(0, NONE), true);
        Check.due("P19 the one from 2 is 0", house.lead(0, 2), false);
        Check.due("P19 it leads on", house.lead(0, 3), true);
        Check.due("P19 print", Houses.printed(house, 0), "a: 1(0) 2(0) 3(0)>a 4 4(0)");
        Check.due("P19 the next pointer", house.point(0, 1), 1);
    }

    /** P19: it leads to b from now on, and is loose no longer. */
    private static void leadFromNowOn() {
        SlipHouse house = Houses.made(LOOSE);
        Check.due("P19 loose ones", house.count(6), 1);
        Check.due("P19 to 3", house.lead(1, 3), true);
        Check.due("P19 loose ones then", house.count(6), 0);
        Check.due("P19 pointers", house.count(5), 3);
        Check.due("P19 print", Houses.printed(house, 0), "cat: 1(1500-1510,1)>dog 1>dog 1 1.1(1500-1510,1)");
        house.drop(3);
        Check.due("P19 loose again, as is the other one to 3", house.count(6), 2);
        Check.due("P19 that from 3 is gone", house.count(5), 2);
    }

    /** P24: a pointer is loose. */
    private static void editionLoosePointer() {
        Edge.some("P24 no pointer is loose", TREE, SlipHouse::edition, 1);
        Edge.none("P24 one is loose", LOOSE, SlipHouse::edition);
        Edge.some("P24 it was led on", LOOSE.then(h -> h.lead(1, 1)), SlipHouse::edition, 1);
        Edge.some("P24 it is gone", LOOSE.then(h -> h.lead(1, NONE)), SlipHouse::edition, 1);
        Edge.none("P24 one of two is loose", LOOSE.then(h -> h.drop(3)).then(h -> h.lead(0, 1)), SlipHouse::edition);
        Edge.some("P24 that from which it led is gone, too", pointers(1).then(h -> h.drop(2)).then(h -> h.drop(0)),
            SlipHouse::edition, 0);
        Edge.none("P24 loose by a join", pointers(1).then(h -> h.join(2, 3)), SlipHouse::edition);
    }

    private static Houses.Calls editions(int editions) {
        return TREE.then(h -> {
            for (int e = 1; e < editions; e++) {
                h.put(2, e % 2 == 1 ? 0 : 1, NONE);
                h.edition();
            }
        });
    }

    /** P24: 8 are there; Terms: there may be 8. */
    private static void editionEight() {
        Edge.some("P24 the eighth edition", editions(7), SlipHouse::edition, 7);
        Edge.none("P24 the ninth edition", editions(8), SlipHouse::edition);
        SlipHouse house = Houses.made(editions(8));
        Check.due("P24 editions", house.count(9), 8);
        for (int e = 1; e < 8; e++) {
            Check.due("P25 entry of 2 in " + e, house.as(e, 2, 0), e % 2 == 1 ? 0 : 1);
        }
        Check.due("P25 not there in the first one", house.as(0, 2, 0), -2);
    }

    /** Terms: an edition keeps where each slip stands, whatever comes later. */
    private static void editionKeeps() {
        SlipHouse house = Houses.made(TREE);
        house.put(0, NONE, NONE);
        house.drop(1);
        house.put(1, 0, 0);
        Check.due("P25 entry of 0", house.as(0, 0, 0), 0);
        Check.due("P25 sense of 0, dropped since", house.as(0, 0, 1), 1);
        Check.due("P25 entry of 1", house.as(0, 1, 0), 1);
        Check.due("P25 heap of 1", house.as(0, 1, 1), NONE);
        house.sort();
        house.join(0, 2);
        Check.due("P25 entry of 1, joined since", house.as(0, 1, 0), 1);
        house.lead(0, NONE);
        Check.due("P25 another edition", house.edition(), 1);
        Check.due("P25 sense of 1 in it", house.as(1, 1, 1), 2);
        Check.due("P25 sense of 0 in it", house.as(1, 0, 1), NONE);
        Check.due("P25 sense of 0 in the first one still", house.as(0, 0, 1), 1);
    }

    /** P25: NONE for other editions and slips. */
    private static void asNoSuchOnes() {
        Edge.none("P25 edition -1", TREE, h -> h.as(-1, 0, 0));
        Edge.asks("P25 edition 0", TREE, h -> h.as(0, 0, 0), 0);
        Edge.none("P25 edition 1", TREE, h -> h.as(1, 1, 0));
        Edge.none("P25 edition 1, a slip that was not there in 0", TREE, h -> h.as(1, 2, 0));
        Edge.asks("P25 edition 7", editions(8), h -> h.as(7, 0, 1), 1);
        Edge.none("P25 edition 8", editions(8), h -> h.as(8, 0, 1));
        Edge.none("P25 slip -1", TREE, h -> h.as(0, -1, 0));
        Edge.none("P25 slip 3", TREE, h -> h.as(0, 3, 0));
        Edge.none("P25 slip 120", TREE, h -> h.as(0, 120, 0));
        Edge.none("P25 the least ints", TREE, h -> h.as(MIN, MIN, 0));
        Edge.none("P25 slip the greatest int", TREE, h -> h.as(0, MAX, 0));
        Edge.none("P25 edition the greatest int", TREE, h -> h.as(MAX, 0, 0));
        Houses.Calls full = h -> {
            h.book(1, 2);
            Houses.entry(h, "a", 1, 2);
            Houses.slips(h, 120, 0, "a");
            h.put(119, 0, NONE);
            h.edition();
        };
        SlipHouse house = Houses.made(full);
        Check.due("P25 slip 119 of 120", house.as(0, 119, 0), 0);
        Check.due("P25 slip 118 of 120", house.as(0, 118, 0), NONE);
        Check.due("P25 slip 120 of 120", house.as(0, 120, 0), NONE);
    }

    /** P25: what 0, 1; NONE for others. */
    private static void asWhat() {
        Edge.asks("P25 entry", TREE, h -> h.as(0, 1, 0), 1);
        Edge.asks("P25 heap", TREE, h -> h.as(0, 1, 1), NONE);
        Edge.asks("P25 sense", TREE, h -> h.as(0, 0, 1), 1);
        Edge.none("P25 what -1", TREE, h -> h.as(0, 0, -1));
        Edge.none("P25 what 2", TREE, h -> h.as(0, 0, 2));
        Edge.none("P25 what the least int", TREE, h -> h.as(0, 0, MIN));
        Edge.none("P25 what the greatest int", TREE, h -> h.as(0, 0, MAX));
        Edge.none("P25 what 2 of a slip that was not there", TREE, h -> h.as(0, 2, 2));
        Edge.none("P25 what -1 of a slip that was not there", TREE, h -> h.as(0, 2, -1));
    }

    /** P25: -2, it was not there; a loose one was. */
    private static void asNotThere() {
        Edge.asks("P25 the last one that was there", TREE, h -> h.as(0, 1, 0), 1);
        Edge.asks("P25 the first one that was not", TREE, h -> h.as(0, 2, 0), -2);
        Edge.asks("P25 the same, its sense", TREE, h -> h.as(0, 2, 1), -2);
        Houses.Calls loose = TREE.then(SlipHouse::edition);
        Edge.asks("P25 a loose one that was there", loose, h -> h.as(1, 2, 0), NONE);
        Edge.asks("P25 the same, its sense", loose, h -> h.as(1, 2, 1), NONE);
        Houses.Calls empty = h -> {
            h.edition();
            h.book(1, 2);
            Houses.slip(h, 0, "a");
        };
        Edge.asks("P25 an edition without slips", empty, h -> h.as(0, 0, 0), -2);
        Edge.none("P25 no slip even now", empty, h -> h.as(0, 1, 0));
    }

    /** P26: no such editions. */
    private static void differNoSuchOnes() {
        Edge.none("P26 -1 and 0", editions(3), h -> h.differ(-1, 0, NONE));
        Edge.none("P26 0 and -1", editions(3), h -> h.differ(0, -1, NONE));
        Edge.asks("P26 0 and 2", editions(3), h -> h.differ(0, 2, NONE), 1);
        Edge.none("P26 0 and 3", editions(3), h -> h.differ(0, 3, NONE));
        Edge.none("P26 3 and 0", editions(3), h -> h.differ(3, 0, NONE));
        Edge.none("P26 3 and 3", editions(3), h -> h.differ(3, 3, NONE));
        Edge.none("P26 the i-th of 0 and 3", editions(3), h -> h.differ(0, 3, 0));
        Edge.none("P26 the least int", editions(3), h -> h.differ(MIN, 0, NONE));
        Edge.none("P26 the greatest int", editions(3), h -> h.differ(0, MAX, NONE));
        Edge.asks("P26 6 and 7", editions(8), h -> h.differ(6, 7, NONE), 1);
        Edge.none("P26 7 and 8", editions(8), h -> h.differ(7, 8, NONE));
    }

    /** P26: the i-th of them, from 0 on; NONE for others. */
    private static void differIndex() {
        Houses.Calls two = TREE.then(SlipHouse::edition).then(h -> h.put(0, 0, 0)).then(h -> h.put(2, 1, 3))
            .then(SlipHouse::edition);
        Edge.asks("P26 how many", two, h -> h.differ(1, 2, NONE), 2);
        Edge.asks("P26 i 0", two, h -> h.differ(1, 2, 0), 0);
        Edge.asks("P26 i 1", two, h -> h.differ(1, 2, 1), 2);
        Edge.none("P26 i 2", two, h -> h.differ(1, 2, 2));
        Edge.none("P26 i -2", two, h -> h.differ(1, 2, -2));
        Edge.none("P26 i the least int", two, h -> h.differ(1, 2, MIN));
        Edge.none("P26 i the greatest int", two, h -> h.differ(1, 2, MAX));
        Edge.asks("P26 the other way", two, h -> h.differ(2, 1, 1), 2);
    }

    /** P26: none, and all of 120. */
    private static void differHowMany() {
        Houses.Calls full = h -> {
            h.book(1, 2);
            Houses.entry(h, "a", 1, 2);
            Houses.slips(h, 120, 0, "a");
            h.edition();
            h.edition();
            h.sort();
            h.edition();
        };
        SlipHouse house = Houses.made(full);
        Check.due("P26 none", house.differ(0, 1, NONE), 0);
        Check.due("P26 the first of none", house.differ(0, 1, 0), NONE);
        Check.due("P26 of one edition and itself", house.differ(2, 2, NONE), 0);
        Check.due("P26 all", house.differ(0, 2, NONE), 120);
        Check.due("P26 the first", house.differ(0, 2, 0), 0);
        Check.due("P26 the last", house.differ(0, 2, 119), 119);
        Check.due("P26 none behind it", house.differ(0, 2, 120), NONE);
    }

    /** Terms: by the numbers of entry and sense; one that was not there stands nowhere, one that is loose does. */
    private static void differStandsNowhere() {
        Houses.Calls more = TREE.then(SlipHouse::edition).then(SlipHouse::edition);
        Edge.asks("P26 not there, and loose", more, h -> h.differ(0, 1, NONE), 1);
        Edge.asks("P26 which", more, h -> h.differ(0, 1, 0), 2);
        Edge.asks("P26 loose in both", more, h -> h.differ(1, 2, NONE), 0);
        Houses.Calls later = TREE.then(SlipHouse::edition).then(h -> h.slip(0, 3));
        Check.due("P26 there in none of both", Houses.made(later).count(1), 4);
        Edge.asks("P26 there in none of both, not told", later, h -> h.differ(0, 1, NONE), 1);
        Houses.Calls heaps = TREE.then(h -> h.put(1, 0, NONE)).then(SlipHouse::edition);
        Edge.asks("P26 another heap", heaps, h -> h.differ(0, 1, 0), 1);
        Houses.Calls above = TREE.then(h -> h.put(0, 0, 0)).then(SlipHouse::edition);
        Edge.asks("P26 another sense", above, h -> h.differ(0, 1, 0), 0);
        Houses.Calls back = TREE.then(h -> h.put(0, 0, 0)).then(h -> h.put(0, 0, 1)).then(SlipHouse::edition);
        Edge.asks("P26 back where it stood", back, h -> h.differ(0, 1, 0), 2);
    }

    /** P27: none such; the latest print stays. */
    private static void printNoneSuch() {
        Edge.none("P27 entry -1", TREE, h -> h.print(-1));
        Edge.some("P27 entry 0", TREE, h -> h.print(0), 53);
        Edge.some("P27 entry 1", TREE, h -> h.print(1), 20);
        Edge.none("P27 entry 2", TREE, h -> h.print(2));
        Edge.none("P27 the least int", TREE, h -> h.print(MIN));
        Edge.none("P27 the greatest int", TREE, h -> h.print(MAX));
        Houses.Calls full = h -> {
            for (int e = 0; e < 12; e++) {
                Houses.entry(h, "ab", 1, 2);
            }
        };
        Edge.some("P27 entry 11", full, h -> h.print(11), 3);
        Edge.none("P27 entry 12", full, h -> h.print(12));
    }

    /** P28: NONE if there is none. */
    private static void octetNone() {
        Edge.none("P28 no print", h -> Houses.entry(h, "ab", 1, 2), h -> h.octet(0));
        Edge.none("P28 no print, as there is no such entry", h -> h.print(0), h -> h.octet(0));
        Edge.none("P28 byte -1", TREE, h -> h.octet(-1));
        Edge.asks("P28 byte 0", TREE, h -> h.octet(0), 'd');
        Edge.asks("P28 byte 19", TREE, h -> h.octet(19), '1');
        Edge.none("P28 byte 20", TREE, h -> h.octet(20));
        Edge.none("P28 the least int", TREE, h -> h.octet(MIN));
        Edge.none("P28 the greatest int", TREE, h -> h.octet(MAX));
    }

    private static String octets(SlipHouse house) {
        StringBuilder text = new StringBuilder();
        for (int i = 0; i < 100 && house.octet(i) != NONE; i++) {
            text.append((char) house.octet(i));
        }
        return text.toString();
    }

    /** P28: of the latest print, as it was made. */
    private static void octetOfTheLatestPrint() {
        SlipHouse house = Houses.made(TREE);
        Check.due("P28 the latest one", octets(house), "dog: 1(0)>cat 1.1 +1");
        house.put(1, NONE, NONE);
        house.sense(1, NONE);
        Check.due("P28 as it was made", octets(house), "dog: 1(0)>cat 1.1 +1");
        house.print(2);
        Check.due("P28 no other one", octets(house), "dog: 1(0)>cat 1.1 +1");
        house.print(0);
        Check.due("P28 a longer one", octets(house), "cat: 1(1500-1510,1)>dog 1>cat 2 1.1(1500-1510,1) 2(0)");
        house.print(1);
        Check.due("P28 a shorter one", octets(house), "dog: 1(0)>cat 1.1 2(0)");
    }

    /** P29: what 0 to 12; NONE for others. */
    private static void countWhat() {
        Houses.Calls more = LOOSE.then(h -> h.before(0, 1)).then(h -> h.put(2, 0, 0)).then(h -> {
            h.rule(1, 1);
            Houses.entry(h, "cow", 1, 2000);
            Houses.entry(h, "cow", 1, 2000);
            h.put(2, NONE, NONE);
            Houses.slipIn(h, 1, 0, 0);
            Houses.feed(h, "");
        });
        int[] due = {2, 4, 4, 1, 3, 3, 1, 1, 1, 1, 1, 1, 20};
        for (int what = 0; what <= 12; what++) {
            int asked = what;
            Edge.asks("P29 count(" + what + ")", more, h -> h.count(asked), due[what]);
        }
        Edge.none("P29 count(-1)", more, h -> h.count(-1));
        for (int what = 13; what <= 19; what++) {
            int asked = what;
            Edge.none("P29 count(" + what + ")", more, h -> h.count(asked));
        }
        Edge.none("P29 count of the least int", more, h -> h.count(MIN));
        Edge.none("P29 count of the greatest int", more, h -> h.count(MAX));
        Edge.none("P29 count of what wraps around to entry 0", more, h -> h.count(MIN + 20));
    }

    /** P29: 20 + e slips in entry e's heap. */
    private static void countHeaps() {
        Edge.asks("P29 the heap of 0", TREE, h -> h.count(20), 0);
        Edge.asks("P29 the heap of 1", TREE, h -> h.count(21), 1);
        Edge.none("P29 the heap of 2", TREE, h -> h.count(22));
        Houses.Calls full = h -> {
            h.book(1, 2);
            for (int e = 0; e < 12; e++) {
                Houses.entry(h, "ab", 1, 2);
            }
            Houses.slip(h, 0, "ab");
            h.put(0, 11, NONE);
        };
        Edge.asks("P29 the heap of 11", full, h -> h.count(31), 1);
        Edge.asks("P29 the heap of 10", full, h -> h.count(30), 0);
        Edge.none("P29 the heap of 12", full, h -> h.count(32));
    }

    /** P29: at the limits of Terms. */
    private static void countAtTheLimits() {
        Houses.Calls full = h -> {
            Houses.books(h, 30, 1, 2);
            for (int e = 0; e < 12; e++) {
                Houses.entry(h, "a", 1, 2);
            }
            for (int r = 0; r < 10; r++) {
                Houses.rule(h, "a", "b");
            }
            Houses.senses(h, 40, 0, NONE);
            for (int p = 0; p < 20; p++) {
                h.point(p, 20);
            }
            for (int e = 0; e < 8; e++) {
                h.edition();
            }
            Houses.slips(h, 120, 29, "b");
            h.drop(20);
            Houses.feed(h, "");
            Houses.feed(h, "");
        };
        int[] due = {30, 120, 12, 10, 39, 20, 20, 120, 120, 8, 0, 0, 40};
        SlipHouse house = Houses.made(full);
        for (int what = 0; what <= 12; what++) {
            Check.due("P29 count(" + what + ") at the limits", house.count(what), due[what]);
        }
    }
}
