/** Promises 18, 19 and 24 to 29: pointers, editions, the print, and counts. */
final class KeepingTests {
    private static final int NONE = SlipHouse.NONE;

    private KeepingTests() {
    }

    static void run() {
        points();
        leads();
        leadGone();
        editions();
        as();
        differ();
        differByNumbers();
        print();
        printPointers();
        printOrder();
        octets();
        counts();
    }

    /** Entry 0 with senses 0, 1 under 0, 2; entry 1 with sense 3; slips 0 in sense 1, 1 loose. */
    private static SlipHouse tree() {
        SlipHouse house = new SlipHouse();
        make(house);
        return house;
    }

    private static void make(SlipHouse house) {
        house.book(1500, 1510);
        house.book(1601, 1601);
        Houses.entry(house, "cat", 1, 2000);
        Houses.entry(house, "dog", 1, 2000);
        house.sense(0, NONE);
        house.sense(0, 0);
        house.sense(0, NONE);
        house.sense(1, NONE);
        Houses.slipIn(house, 0, 0, 1);
        Houses.slip(house, 1, "cow");
    }

    /** The same with pointers 0 from 0 to 3, 1 from 0 to 2 (loose, as 2 is dropped), 2 from 3 to 1. */
    private static void makeLoose(SlipHouse house) {
        make(house);
        house.point(0, 3);
        house.point(0, 2);
        house.point(3, 1);
        house.drop(2);
        house.print(0);
    }

    private static void points() {
        SlipHouse house = tree();
        Check.due("point(0, 3)", house.point(0, 3), 0);
        Check.due("point(0, 3) again", house.point(0, 3), 1);
        Check.due("point(3, 0)", house.point(3, 0), 2);
        Check.due("to what is under it", house.point(0, 1), 3);
        Check.due("pointers", house.count(5), 4);
        Check.due("loose ones", house.count(6), 0);
    }

    private static void leads() {
        SlipHouse house = new SlipHouse();
        makeLoose(house);
        Check.due("loose", house.count(6), 1);
        Check.due("lead to 1", house.lead(1, 1), true);
        Check.due("loose then", house.count(6), 0);
        Check.due("no more to be led", house.lead(1, 3), false);
        Check.due("print", Houses.printed(house, 0), "cat: 1(1500-1510,1)>dog 1>cat 1.1 1.1(1500-1510,1)");
    }

    private static void leadGone() {
        SlipHouse house = new SlipHouse();
        makeLoose(house);
        Check.due("lead(1, NONE)", house.lead(1, NONE), true);
        Check.due("pointers", house.count(5), 2);
        house.put(0, NONE, NONE);
        house.drop(1);
        Check.due("what was 2 is 1 and loose", house.lead(1, 0), true);
        Check.due("print of 1", Houses.printed(house, 1), "dog: 1(0)>cat 1");
    }

    private static void editions() {
        SlipHouse house = new SlipHouse();
        makeLoose(house);
        Check.due("a pointer is loose", house.edition(), NONE);
        Check.due("editions", house.count(9), 0);
        house.lead(1, 1);
        Check.due("edition 0", house.edition(), 0);
        Check.due("editions then", house.count(9), 1);
    }

    private static void as() {
        SlipHouse house = tree();
        house.edition();
        house.put(0, 1, NONE);
        Houses.slip(house, 0, "new");
        house.edition();
        Check.due("entry in 0", house.as(0, 0, 0), 0);
        Check.due("sense in 0", house.as(0, 0, 1), 1);
        Check.due("entry in 1", house.as(1, 0, 0), 1);
        Check.due("sense in 1", house.as(1, 0, 1), NONE);
        Check.due("entry of a loose one", house.as(0, 1, 0), NONE);
        Check.due("not there yet", house.as(0, 2, 0), -2);
        Check.due("nor in a sense", house.as(0, 2, 1), -2);
        Check.due("there then", house.as(1, 2, 0), NONE);
        Check.due("what 2", house.as(1, 0, 2), NONE);
        Check.due("what -1", house.as(1, 0, -1), NONE);
        Check.due("no edition", house.as(2, 0, 0), NONE);
        Check.due("edition -1", house.as(-1, 0, 0), NONE);
        Check.due("no slip", house.as(0, 3, 0), NONE);
        Check.due("slip -1", house.as(0, -1, 0), NONE);
    }

    private static void differ() {
        SlipHouse house = tree();
        house.edition();
        house.edition();
        house.put(1, 0, NONE);
        Houses.slip(house, 0, "new");
        house.edition();
        Check.due("alike", house.differ(0, 1, NONE), 0);
        Check.due("with itself", house.differ(2, 2, NONE), 0);
        Check.due("how many", house.differ(0, 2, NONE), 2);
        Check.due("the other way", house.differ(2, 1, NONE), 2);
        Check.due("the first one", house.differ(0, 2, 0), 1);
        Check.due("the second one", house.differ(0, 2, 1), 2);
        Check.due("no third one", house.differ(0, 2, 2), NONE);
        Check.due("i -2", house.differ(0, 2, -2), NONE);
        Check.due("none of two alike", house.differ(0, 1, 0), NONE);
        Check.due("no edition", house.differ(0, 3, NONE), NONE);
        Check.due("edition -1", house.differ(-1, 0, NONE), NONE);
    }

    private static void differByNumbers() {
        SlipHouse house = tree();
        house.edition();
        house.put(0, NONE, NONE);
        house.drop(1);
        house.sense(0, NONE);
        house.put(0, 0, 1);
        house.edition();
        Check.due("another sense of the same number", house.differ(0, 1, NONE), 0);
        house.put(0, 0, NONE);
        house.edition();
        Check.due("the heap is otherwise", house.differ(1, 2, 0), 0);
        house.put(0, 1, NONE);
        house.edition();
        Check.due("another heap is, too", house.differ(2, 3, NONE), 1);
        house.put(0, NONE, NONE);
        house.edition();
        Check.due("loose is, too", house.differ(3, 4, NONE), 1);
    }

    private static void print() {
        SlipHouse house = tree();
        Check.due("print", Houses.printed(house, 0), "cat: 1(1500-1510,1) 1.1(1500-1510,1) 2(0)");
        Check.due("print without slips", Houses.printed(house, 1), "dog: 1(0)");
        house.put(1, 1, NONE);
        Check.due("with a heap", Houses.printed(house, 1), "dog: 1(0) +1");
        house.put(1, 0, 2);
        Check.due("years that are one", Houses.printed(house, 0), "cat: 1(1500-1510,1) 1.1(1500-1510,1) 2(1601,1)");
        house.book(3, 10);
        for (int i = 0; i < 11; i++) {
            Houses.slipIn(house, 2, 0, i == 0 ? 2 : NONE);
        }
        Check.due("years of few digits", Houses.printed(house, 0),
            "cat: 1(3-10,2) 2(1500-1510,1) 2.1(1500-1510,1) +10");
        Houses.entry(house, "abcdefgh", 1, 2);
        Check.due("a head alone", Houses.printed(house, 2), "abcdefgh:");
        Houses.form(house, 2, "b", 1, 2);
        Check.due("no form but the head", Houses.printed(house, 2), "abcdefgh:");
    }

    private static void printPointers() {
        SlipHouse house = new SlipHouse();
        makeLoose(house);
        house.point(0, 1);
        Check.due("loose ones are left out", Houses.printed(house, 0),
            "cat: 1(1500-1510,1)>dog 1>cat 1.1 1.1(1500-1510,1)");
        Check.due("of another entry", Houses.printed(house, 1), "dog: 1(0)>cat 1.1");
        house.lead(1, 3);
        Check.due("in the order in which they were told", Houses.printed(house, 0),
            "cat: 1(1500-1510,1)>dog 1>dog 1>cat 1.1 1.1(1500-1510,1)");
    }

    private static void printOrder() {
        SlipHouse house = tree();
        house.sense(0, 0);
        house.sense(0, 5);
        house.sense(0, 4);
        Check.due("each behind the one it is under", Houses.printed(house, 0),
            "cat: 1(1500-1510,1) 1.1(1500-1510,1) 1.2(0) 1.2.1(0) 2(0)");
        house.put(0, 0, 5);
        Check.due("marks go by the order", Houses.printed(house, 0),
            "cat: 1(1500-1510,1) 1.1(1500-1510,1) 1.1.1(1500-1510,1) 1.2(0) 2(0)");
        house.move(0, 2);
        Check.due("moved", Houses.printed(house, 0),
            "cat: 1(1500-1510,1) 1.1(1500-1510,1) 1.1.1(1500-1510,1) 1.1.1.1(1500-1510,1) 1.1.2(0)");
    }

    private static void octets() {
        SlipHouse house = tree();
        Check.due("no print yet", house.octet(0), NONE);
        Check.due("print(1)", house.print(1), 9);
        Check.due("byte 0", house.octet(0), 'd');
        Check.due("byte 3", house.octet(3), ':');
        Check.due("byte 8", house.octet(8), ')');
        Check.due("byte 9", house.octet(9), NONE);
        Check.due("byte -1", house.octet(-1), NONE);
        Check.due("print(2)", house.print(2), NONE);
        Check.due("print(-1)", house.print(-1), NONE);
        Check.due("the latest print stays", house.octet(0), 'd');
        house.sense(1, NONE);
        Check.due("as it was made", house.octet(9), NONE);
    }

    private static void counts() {
        SlipHouse house = new SlipHouse();
        makeLoose(house);
        Houses.rule(house, "a", "b");
        house.before(0, 1);
        Houses.feed(house, "");
        int[] due = {2, 2, 2, 1, 3, 3, 1, 1, 0, 0, 1, 0, 20};
        for (int what = 0; what < due.length; what++) {
            Check.due("count(" + what + ")", house.count(what), due[what]);
        }
        house.put(1, 1, NONE);
        Check.due("heap of 0", house.count(20), 0);
        Check.due("heap of 1", house.count(21), 1);
        Check.due("heap of 2", house.count(22), NONE);
        Check.due("count(13)", house.count(13), NONE);
        Check.due("count(19)", house.count(19), NONE);
        Check.due("count(-1)", house.count(-1), NONE);
        Check.due("count at the ints' ends", house.count(Integer.MIN_VALUE), NONE);
        Check.due("count at the other end", house.count(Integer.MAX_VALUE), NONE);
    }
}
