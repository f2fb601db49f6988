/** Promises 12 to 17 and 20 to 23: senses, where slips stand, what is told of both. */
final class SenseTests {
    private static final int NONE = SlipHouse.NONE;

    private SenseTests() {
    }

    static void run() {
        senses();
        put();
        move();
        join();
        joinToWhatItIsUnder();
        part();
        drop();
        toldWitnesses();
        toldGap();
        toldOrder();
        orderAtTheLastYear();
        olderByYears();
        olderByBefores();
        flaws();
        flawsByOwnSlips();
        where();
    }

    /**
     * Books 0 to 3 of 1500-1510, 1505-1520, 1600, 1550-1560; senses 0 and 3 of entry 0, 1 and 2 under 0, 4 under 2;
     * sense 5 of entry 1; slip 0 of book 1 in sense 1, slip 1 of book 0 in the heap.
     */
    private static SlipHouse tree() {
        SlipHouse house = new SlipHouse();
        make(house);
        return house;
    }

    private static void make(SlipHouse house) {
        house.book(1500, 1510);
        house.book(1505, 1520);
        house.book(1600, 1600);
        house.book(1550, 1560);
        Houses.entry(house, "cat", 1, 2000);
        Houses.entry(house, "dog", 1, 2000);
        house.sense(0, NONE);
        house.sense(0, 0);
        house.sense(0, 0);
        house.sense(0, NONE);
        house.sense(0, 2);
        house.sense(1, NONE);
        Houses.slipIn(house, 1, 0, 1);
        Houses.slipIn(house, 0, 0, NONE);
        house.point(0, 5);
        house.edition();
    }

    private static void senses() {
        SlipHouse house = tree();
        Check.due("senses", house.count(4), 6);
        int[] parents = {NONE, 0, 0, NONE, 2, NONE};
        int[] depths = {1, 2, 2, 1, 3, 1};
        int[] under = {2, 0, 1, 0, 0, 0};
        for (int t = 0; t < 6; t++) {
            Check.due("entry of " + t, house.told(t, 0), t == 5 ? 1 : 0);
            Check.due("what " + t + " is under", house.told(t, 1), parents[t]);
            Check.due("senses under " + t, house.told(t, 10), under[t]);
            Check.due("depth of " + t, house.told(t, 11), depths[t]);
        }
        house.drop(3);
        house.drop(1);
        Check.due("1 has a slip", house.count(4), 5);
        Check.due("the lowest that is free", house.sense(1, 5), 3);
        Check.due("then the next one", house.sense(0, NONE), 6);
    }

    private static void put() {
        SlipHouse house = tree();
        Check.due("to a sense", house.put(0, 0, 4), true);
        Check.due("there already", house.put(0, 0, 4), false);
        Check.due("its entry", house.where(0, 0), 0);
        Check.due("its sense", house.where(0, 1), 4);
        Check.due("to a sense of another entry", house.put(0, 1, 5), true);
        Check.due("its entry then", house.where(0, 0), 1);
        Check.due("to a heap", house.put(0, 1, NONE), true);
        Check.due("in it already", house.put(0, 1, NONE), false);
        Check.due("its sense then", house.where(0, 1), NONE);
        Check.due("loose", house.put(0, NONE, NONE), true);
        Check.due("loose already", house.put(0, NONE, NONE), false);
        Check.due("its entry at last", house.where(0, 0), NONE);
    }

    private static void move() {
        SlipHouse house = tree();
        Check.due("2 to the top", house.move(2, NONE), true);
        Check.due("what it is under", house.told(2, 1), NONE);
        Check.due("what came with it", house.told(4, 1), 2);
        Check.due("depth of that", house.told(4, 11), 2);
        Check.due("at the top already", house.move(2, NONE), false);
        Check.due("0 under 4", house.move(0, 4), true);
        Check.due("depth of 1", house.told(1, 11), 4);
        Check.due("2 under 1 would be a ring", house.move(2, 1), false);
        Check.due("senses under 4", house.told(4, 10), 1);
    }

    private static void join() {
        SlipHouse house = tree();
        house.point(3, 2);
        house.point(2, 3);
        house.point(2, 5);
        house.put(1, 0, 2);
        Check.due("2 into 3", house.join(2, 3), true);
        Check.due("2 is gone", house.told(2, 0), NONE);
        Check.due("senses", house.count(4), 5);
        Check.due("its slip came to 3", house.where(1, 1), 3);
        Check.due("4 is under 3", house.told(4, 1), 3);
        Check.due("its pointers are gone", house.count(5), 2);
        Check.due("that to it is loose", house.count(6), 1);
        Check.due("its number is free", house.sense(0, NONE), 2);
        Check.due("the pointer stays loose", house.count(6), 1);
        Check.due("the loose one has number 1", house.lead(0, 1), false);
        Check.due("and leads on", house.lead(1, 1), true);
    }

    private static void joinToWhatItIsUnder() {
        SlipHouse house = tree();
        Check.due("2 into 0", house.join(2, 0), true);
        Check.due("4 is under 0", house.told(4, 1), 0);
        Check.due("senses under 0", house.told(0, 10), 2);
        Check.due("0 into 3", house.join(0, 3), true);
        Check.due("pointer 0 is gone", house.count(5), 0);
        Check.due("1 is under 3", house.told(1, 1), 3);
        Check.due("its slip stays in it", house.where(0, 1), 1);
    }

    private static void part() {
        SlipHouse house = tree();
        Check.due("part 4", house.part(4), 6);
        Check.due("what the new one is under", house.told(6, 1), 2);
        Check.due("its entry", house.told(6, 0), 0);
        Check.due("it has no slips", house.told(6, 2), 0);
        Check.due("part 1", house.part(1), 7);
        Check.due("1 keeps its slip", house.told(1, 2), 1);
        Check.due("part 0", house.part(0), 8);
        Check.due("the new one is at the top", house.told(8, 1), NONE);
        Check.due("0 keeps what is under it", house.told(0, 10), 3);
        Check.due("part 5", house.part(5), 9);
        Check.due("of entry 1", house.told(9, 0), 1);
    }

    private static void drop() {
        SlipHouse house = tree();
        house.point(4, 0);
        house.point(3, 4);
        Check.due("drop 4", house.drop(4), true);
        Check.due("it is gone", house.told(4, 0), NONE);
        Check.due("dropped already", house.drop(4), false);
        Check.due("pointers", house.count(5), 2);
        Check.due("loose ones", house.count(6), 1);
        Check.due("drop 2, under which nothing is now", house.drop(2), true);
    }

    private static void toldWitnesses() {
        SlipHouse house = tree();
        Houses.slipIn(house, 3, 0, 4);
        Houses.slipIn(house, 2, 0, 0);
        Houses.slipIn(house, 0, 0, 0);
        due(house, 0, new int[] {2, 4, 1500, 1510, 1600, 1600});
        due(house, 1, new int[] {1, 1, 1505, 1520, 1505, 1520});
        due(house, 2, new int[] {0, 1, 1550, 1560, 1550, 1560});
        due(house, 3, new int[] {0, 0, NONE, NONE, NONE, NONE});
        house.book(1400, 1700);
        Houses.slipIn(house, 4, 0, 4);
        due(house, 0, new int[] {2, 5, 1400, 1510, 1600, 1700});
        house.before(0, 1);
        house.before(4, 1);
        due(house, 0, new int[] {2, 5, 1400, 1510, 1600, 1600});
    }

    private static void due(SlipHouse house, int t, int[] answers) {
        for (int i = 0; i < answers.length; i++) {
            Check.due("told(" + t + ", " + (2 + i) + ")", house.told(t, 2 + i), answers[i]);
        }
    }

    private static void toldGap() {
        SlipHouse house = tree();
        Check.due("without witnesses", house.told(3, 8), NONE);
        Houses.slipIn(house, 0, 0, 3);
        Check.due("one book", house.told(3, 8), 0);
        Houses.slipIn(house, 1, 0, 3);
        Check.due("spans that meet", house.told(3, 8), 0);
        Houses.slipIn(house, 2, 0, 3);
        Check.due("1521 to 1599", house.told(3, 8), 79);
        Houses.slipIn(house, 3, 0, 3);
        Check.due("1561 to 1599", house.told(3, 8), 39);
        house.book(1523, 1549);
        house.book(1490, 1590);
        house.put(2, NONE, NONE);
        int last = Houses.slipIn(house, 5, 0, 3);
        Check.due("a long span has them all", house.told(3, 8), 9);
        house.put(last, NONE, NONE);
        Houses.slipIn(house, 4, 0, 3);
        Check.due("1561 to 1599 again", house.told(3, 8), 39);
    }

    private static void toldOrder() {
        SlipHouse house = tree();
        places(house, new int[] {1, 1, 2, 2, 1, 1});
        Houses.slipIn(house, 0, 0, 4);
        places(house, new int[] {1, 2, 1, 2, 1, 1});
        house.sense(0, NONE);
        house.sense(0, NONE);
        Houses.slipIn(house, 2, 0, 7);
        Houses.slipIn(house, 3, 0, 3);
        places(house, new int[] {1, 2, 1, 2, 1, 1, 4, 3});
        house.book(1500, 1505);
        Houses.slipIn(house, 4, 0, 7);
        places(house, new int[] {2, 2, 1, 3, 1, 1, 4, 1});
        Houses.slipIn(house, 4, 0, 6);
        places(house, new int[] {3, 2, 1, 4, 1, 1, 1, 2});
        Houses.slipIn(house, 4, 0, 4);
        places(house, new int[] {1, 2, 1, 4, 1, 1, 2, 3});
    }

    private static void orderAtTheLastYear() {
        SlipHouse house = new SlipHouse();
        house.book(2000, 2000);
        Houses.entry(house, "a", 1, 2);
        house.sense(0, NONE);
        house.sense(0, NONE);
        Houses.slipIn(house, 0, 0, 1);
        places(house, new int[] {2, 1});
    }

    private static void places(SlipHouse house, int[] places) {
        for (int t = 0; t < places.length; t++) {
            Check.due("place of " + t, house.told(t, 9), places[t]);
        }
    }

    private static void olderByYears() {
        SlipHouse house = tree();
        Check.due("without witnesses", house.older(0, 3), NONE);
        Check.due("the other without", house.older(3, 0), NONE);
        Houses.slipIn(house, 2, 0, 3);
        Check.due("1505-1520 and 1600", house.older(0, 3), 1);
        Check.due("1600 and 1505-1520", house.older(3, 0), 2);
        Houses.slipIn(house, 0, 0, 3);
        Check.due("1505-1520 and 1500-1510", house.older(0, 3), 0);
        Check.due("a sense and itself", house.older(3, 3), 0);
        Check.due("a sense and one under it", house.older(0, 1), 0);
        Houses.slipIn(house, 3, 1, 5);
        Check.due("of two entries", house.older(5, 1), 2);
        Check.due("no such sense", house.older(0, 6), NONE);
        Check.due("sense -1", house.older(-1, 0), NONE);
        SlipHouse edge = new SlipHouse();
        edge.book(10, 20);
        edge.book(20, 30);
        edge.book(21, 30);
        Houses.entry(edge, "a", 1, 2);
        for (int t = 0; t < 3; t++) {
            edge.sense(0, NONE);
            Houses.slipIn(edge, t, 0, t);
        }
        Check.due("20 is not ahead of 20", edge.older(0, 1), 0);
        Check.due("20 is ahead of 21", edge.older(0, 2), 1);
    }

    private static void olderByBefores() {
        SlipHouse house = new SlipHouse();
        for (int b = 0; b < 5; b++) {
            house.book(1, 2000);
        }
        Houses.entry(house, "a", 1, 2000);
        house.sense(0, NONE);
        house.sense(0, NONE);
        Houses.slipIn(house, 0, 0, 0);
        Houses.slipIn(house, 2, 0, 1);
        Check.due("in doubt", house.older(0, 1), 0);
        house.before(1, 2);
        Check.due("still in doubt", house.older(0, 1), 0);
        house.before(0, 1);
        Check.due("by two befores", house.older(0, 1), 1);
        Check.due("the other way", house.older(1, 0), 2);
        Houses.slipIn(house, 3, 0, 1);
        Check.due("not ahead of all", house.older(0, 1), 0);
        house.before(2, 3);
        Check.due("ahead of all", house.older(0, 1), 1);
        Houses.slipIn(house, 4, 0, 0);
        Check.due("one of its books is enough", house.older(0, 1), 1);
        Houses.slipIn(house, 0, 0, 1);
        Check.due("not ahead of itself", house.older(0, 1), 0);
    }

    private static void flaws() {
        SlipHouse house = tree();
        Check.due("no flaws", house.count(11), 0);
        Check.due("flaw(0)", house.flaw(0), NONE);
        Houses.slipIn(house, 2, 0, 0);
        Check.due("1 is older than 0", house.count(11), 1);
        Check.due("flaw(0) then", house.flaw(0), 64 + 0);
        Houses.slipIn(house, 3, 0, 2);
        Houses.slipIn(house, 0, 0, 4);
        Check.due("flaws", house.count(11), 4);
        int[] due = {64 * 1 + 0, 64 * 2 + 0, 64 * 4 + 0, 64 * 4 + 2, NONE};
        for (int i = 0; i < due.length; i++) {
            Check.due("flaw " + i, house.flaw(i), due[i]);
        }
        Check.due("flaw(-1)", house.flaw(-1), NONE);
        Check.due("flaw at the ints' end", house.flaw(Integer.MAX_VALUE), NONE);
    }

    private static void flawsByOwnSlips() {
        SlipHouse house = tree();
        Houses.slipIn(house, 2, 0, 0);
        house.put(0, 0, 3);
        Houses.slipIn(house, 0, 0, 4);
        Check.due("2 has none of its own", house.count(11), 1);
        Check.due("the one deep under", house.flaw(0), 64 * 4);
        house.move(4, NONE);
        Check.due("beside it there is no flaw", house.count(11), 0);
        house.move(4, 3);
        house.put(0, 0, NONE);
        Houses.slipIn(house, 2, 0, 3);
        Check.due("under 3 there is", house.flaw(0), 64 * 4 + 3);
        SlipHouse other = new SlipHouse();
        other.book(1, 100);
        other.book(1, 100);
        Houses.entry(other, "a", 1, 2);
        other.sense(0, NONE);
        other.sense(0, 0);
        Houses.slipIn(other, 0, 0, 0);
        Houses.slipIn(other, 1, 0, 1);
        Check.due("in doubt there is no flaw", other.count(11), 0);
        other.before(1, 0);
        Check.due("by a before there is", other.flaw(0), 64);
    }

    private static void where() {
        SlipHouse house = tree();
        Houses.slip(house, 3, "fish");
        Check.due("entry", house.where(2, 0), NONE);
        Check.due("sense", house.where(2, 1), NONE);
        Check.due("doubt", house.where(2, 2), 0);
        Check.due("book", house.where(2, 3), 3);
        Check.due("bytes", house.where(2, 4), 4);
        Check.due("byte 0", house.where(2, 10), 'f');
        Check.due("byte 3", house.where(2, 13), 'h');
        Check.due("byte 4", house.where(2, 14), NONE);
        Check.due("what 5", house.where(2, 5), NONE);
        Check.due("what 9", house.where(2, 9), NONE);
        Check.due("what -1", house.where(2, -1), NONE);
        Check.due("what at the ints' ends", house.where(2, Integer.MIN_VALUE), NONE);
        Check.due("what at the other end", house.where(2, Integer.MAX_VALUE), NONE);
        Check.due("no slip", house.where(3, 0), NONE);
        Check.due("slip -1", house.where(-1, 0), NONE);
    }
}
