/** The edges of what Terms say of the print of an entry. */
final class PrintEdges {
    private static final int NONE = SlipHouse.NONE;

    private PrintEdges() {
    }

    static void run() {
        headAlone();
        yearsOneOrTwo();
        yearsOfOneToFourDigits();
        howManyWitnesses();
        marksOfMoreDigits();
        marksOfDepths();
        eachBehindTheOneItIsUnder();
        heaps();
        pointersInTheOrderTold();
        onlyItsOwn();
        longest();
    }

    /** An entry with one sense, and a slip in it of a book of these years. */
    private static SlipHouse dated(int from, int to) {
        SlipHouse house = new SlipHouse();
        house.book(from, to);
        Houses.entry(house, "a", 1, 2000);
        house.sense(0, NONE);
        Houses.slipIn(house, 0, 0, 0);
        return house;
    }

    private static void printed(String what, SlipHouse house, String due) {
        Check.due("P27 " + what, Houses.printed(house, 0), due);
        Check.due("P27 " + what + ": bytes", house.print(0), due.length());
    }

    /** Its head, a colon; no form but the head, no pointers, no heap. */
    private static void headAlone() {
        SlipHouse house = new SlipHouse();
        Houses.entry(house, "abcdefgh", 1, 2000);
        Houses.form(house, 0, "z", 1, 2000);
        printed("a head of eight", house, "abcdefgh:");
        SlipHouse least = new SlipHouse();
        Houses.entry(least, "z", 1, 2000);
        printed("a head of one", least, "z:");
    }

    /** First's two years with a hyphen between; one, if they are one. */
    private static void yearsOneOrTwo() {
        printed("one year", dated(1500, 1500), "a: 1(1500,1)");
        printed("two years", dated(1500, 1501), "a: 1(1500-1501,1)");
        SlipHouse house = dated(1500, 1510);
        house.book(1490, 1501);
        Houses.slipIn(house, 1, 0, 0);
        printed("of two books", house, "a: 1(1490-1501,2)");
        house.book(1491, 1491);
        house.before(1, 2);
        printed("as drawn", house, "a: 1(1490,2)");
        SlipHouse drawn = dated(1500, 1510);
        drawn.book(1504, 1504);
        drawn.before(1, 0);
        printed("a first year as drawn", drawn, "a: 1(1505-1510,1)");
    }

    private static void yearsOfOneToFourDigits() {
        printed("1 to 9", dated(1, 9), "a: 1(1-9,1)");
        printed("9 to 10", dated(9, 10), "a: 1(9-10,1)");
        printed("99 to 100", dated(99, 100), "a: 1(99-100,1)");
        printed("101 to 999", dated(101, 999), "a: 1(101-999,1)");
        printed("999 to 1000", dated(999, 1000), "a: 1(999-1000,1)");
        printed("1001 to 2000", dated(1001, 2000), "a: 1(1001-2000,1)");
        printed("2000", dated(2000, 2000), "a: 1(2000,1)");
        printed("10", dated(10, 10), "a: 1(10,1)");
        printed("1010", dated(1010, 1010), "a: 1(1010,1)");
    }

    /** How many witnesses; without witnesses a 0 alone. */
    private static void howManyWitnesses() {
        SlipHouse house = dated(7, 7);
        int slips = 1;
        int[] counts = {9, 10, 11, 99, 100, 101, 120};
        for (int witnesses : counts) {
            for (; slips < witnesses; slips++) {
                Houses.slipIn(house, 0, 0, 0);
            }
            String due = "a: 1(7," + witnesses + ")";
            Check.due("P27 " + witnesses + " witnesses", house.print(0), due.length());
            int digit = due.length() - 2;
            Check.due("P27 its last digit", house.octet(digit), due.charAt(digit));
            Check.due("P27 the digit ahead of it", house.octet(digit - 1), due.charAt(digit - 1));
        }
        SlipHouse empty = dated(7, 7);
        empty.put(0, NONE, NONE);
        printed("no witnesses", empty, "a: 1(0)");
    }

    /** Places of two digits. */
    private static void marksOfMoreDigits() {
        SlipHouse house = new SlipHouse();
        Houses.entry(house, "a", 1, 2000);
        Houses.senses(house, 11, 0, NONE);
        house.sense(0, 9);
        printed("eleven senses", house,
            "a: 1(0) 2(0) 3(0) 4(0) 5(0) 6(0) 7(0) 8(0) 9(0) 10(0) 10.1(0) 11(0)");
        SlipHouse most = new SlipHouse();
        Houses.entry(most, "a", 1, 2000);
        Houses.senses(most, 40, 0, NONE);
        String text = Houses.printed(most, 0);
        Check.due("P27 forty senses", text.substring(text.length() - 12), " 39(0) 40(0)");
    }

    /** Its places in the order of each depth, the numbers by points between. */
    private static void marksOfDepths() {
        SlipHouse house = new SlipHouse();
        Houses.entry(house, "a", 1, 2000);
        house.sense(0, NONE);
        house.sense(0, NONE);
        house.sense(0, 1);
        house.sense(0, 1);
        house.sense(0, 3);
        house.sense(0, 4);
        house.sense(0, 4);
        printed("depths", house, "a: 1(0) 2(0) 2.1(0) 2.2(0) 2.2.1(0) 2.2.1.1(0) 2.2.1.2(0)");
        house.sense(0, NONE);
        house.sense(0, 1);
        printed("from the deepest up", house,
            "a: 1(0) 2(0) 2.1(0) 2.2(0) 2.2.1(0) 2.2.1.1(0) 2.2.1.2(0) 2.3(0) 3(0)");
        house.drop(8);
        printed("from the deepest to the top", house,
            "a: 1(0) 2(0) 2.1(0) 2.2(0) 2.2.1(0) 2.2.1.1(0) 2.2.1.2(0) 3(0)");
    }

    /** In the order, each sense behind the one it is under, and ahead of the next one beside that. */
    private static void eachBehindTheOneItIsUnder() {
        SlipHouse house = new SlipHouse();
        house.book(10, 10);
        house.book(20, 20);
        Houses.entry(house, "a", 1, 2000);
        house.sense(0, NONE);
        house.sense(0, NONE);
        house.sense(0, 0);
        house.sense(0, 0);
        house.sense(0, 1);
        Houses.slipIn(house, 1, 0, 2);
        Houses.slipIn(house, 0, 0, 4);
        printed("by first years", house, "a: 1(10,1) 1.1(10,1) 2(20,1) 2.1(20,1) 2.2(0)");
        Houses.slipIn(house, 0, 0, 3);
        printed("alike by years", house, "a: 1(10,2) 1.1(10,1) 1.2(20,1) 2(10,1) 2.1(10,1)");
    }

    /** At last, if the heap has slips: a blank, a plus sign, how many. */
    private static void heaps() {
        SlipHouse house = new SlipHouse();
        house.book(7, 7);
        Houses.entry(house, "a", 1, 2000);
        printed("no slips", house, "a:");
        Houses.slip(house, 0, "a");
        printed("a loose slip", house, "a:");
        house.sort();
        printed("one in the heap", house, "a: +1");
        house.sense(0, NONE);
        printed("behind the senses", house, "a: 1(0) +1");
        Houses.slips(house, 9, 0, "a");
        house.sort();
        printed("ten in the heap", house, "a: 1(0) +10");
        Houses.slips(house, 110, 0, "a");
        house.sort();
        Check.due("P27 all in the heap", house.print(0), "a: 1(0) +120".length());
        Check.due("P27 its last digit", house.octet(11), '0');
        Check.due("P27 none behind it", house.octet(12), NONE);
        SlipHouse emptied = dated(7, 7);
        emptied.put(0, 0, NONE);
        printed("one in the heap, none in the sense", emptied, "a: 1(0) +1");
        emptied.put(0, NONE, NONE);
        printed("none in the heap again", emptied, "a: 1(0)");
    }

    /** For each pointer of it that is not loose, in the order in which they were told. */
    private static void pointersInTheOrderTold() {
        SlipHouse house = dated(7, 7);
        Houses.entry(house, "bc", 1, 2000);
        Houses.form(house, 1, "d", 1, 2000);
        house.sense(1, NONE);
        house.sense(1, 1);
        house.sense(0, NONE);
        house.point(0, 3);
        house.point(0, 2);
        house.point(3, 0);
        house.point(0, 1);
        house.point(0, 3);
        printed("four pointers and one", house, "a: 1(7,1)>a 2>bc 1.1>bc 1>a 2 2(0)>a 1");
        house.drop(2);
        printed("one is loose", house, "a: 1(7,1)>a 2>bc 1>a 2 2(0)>a 1");
        house.lead(1, 3);
        printed("it leads on in its place", house, "a: 1(7,1)>a 2>a 2>bc 1>a 2 2(0)>a 1");
        house.drop(1);
        house.put(0, 0, NONE);
        printed("ahead of the heap", house, "a: 1(0)>a 2>a 2>a 2 2(0)>a 1 +1");
    }

    /** The senses, slips and pointers of the entry alone. */
    private static void onlyItsOwn() {
        SlipHouse house = dated(7, 7);
        Houses.entry(house, "b", 1, 2000);
        house.sense(1, NONE);
        house.sense(1, 1);
        Houses.slipIn(house, 0, 1, 1);
        Houses.slipIn(house, 0, 1, NONE);
        house.point(1, 2);
        printed("of entry 0", house, "a: 1(7,1)");
        Check.due("P27 of entry 1", Houses.printed(house, 1), "b: 1(7,1)>b 1.1 1.1(0) +1");
    }

    /** Forty senses one under the other, with the longest brackets, and twenty pointers to the deepest of them. */
    private static void longest() {
        SlipHouse house = new SlipHouse();
        house.book(1000, 2000);
        Houses.entry(house, "abcdefgh", 1, 2000);
        for (int t = 0; t < 40; t++) {
            house.sense(0, t - 1);
        }
        for (int p = 0; p < 20; p++) {
            house.point(p, 39);
        }
        for (int s = 0; s < 120; s++) {
            Houses.slipIn(house, 0, 0, s < 110 ? 39 : NONE);
        }
        int marks = 40 * 40;
        int brackets = 40 * " (1000-2000,110)".length();
        int pointers = 20 * (">abcdefgh ".length() + 79);
        int bytes = "abcdefgh:".length() + marks + brackets + pointers + " +10".length();
        Check.due("P27 the longest: bytes", house.print(0), bytes);
        Check.due("P28 the last byte of it", house.octet(bytes - 1), '0');
        Check.due("P28 none behind it", house.octet(bytes), NONE);
    }
}
