/** Promises 1 to 5: a new object, the tape, books, befores and spans. */
final class BookTests {
    private static final int NONE = SlipHouse.NONE;

    private BookTests() {
    }

    static void run() {
        newObject();
        feed();
        feedHighestByteFirst();
        books();
        beforesTighten();
        beforesInAnyOrder();
        beforesRefused();
        spans();
    }

    private static void newObject() {
        SlipHouse house = new SlipHouse();
        Check.due("NONE", SlipHouse.NONE, -1);
        for (int what = 0; what <= 12; what++) {
            Check.due("new: count(" + what + ")", house.count(what), 0);
        }
        Check.due("new: count(20)", house.count(20), NONE);
        Check.due("new: span(0, 0)", house.span(0, 0), NONE);
        Check.due("new: where(0, 0)", house.where(0, 0), NONE);
        Check.due("new: print(0)", house.print(0), NONE);
        Check.due("new: octet(0)", house.octet(0), NONE);
        Check.due("new: sort()", house.sort(), 0);
        Check.due("new: sense(0, NONE)", house.sense(0, NONE), NONE);
        Check.due("new: edition()", house.edition(), 0);
    }

    private static void feed() {
        SlipHouse house = new SlipHouse();
        Check.due("feed once", house.feed(0, 0, 0, 0, 0), 20);
        Check.due("feed twice", house.feed(1, 2, 3, 4, 5), 40);
        Check.due("feed above 40", house.feed(1, 2, 3, 4, 5), NONE);
        Check.due("the tape stays", house.count(12), 40);
        house.book(1, 1);
        Check.due("zero bytes are no word", house.slip(0, 1), NONE);
        Check.due("feed behind an emptied tape", house.feed(0, 0, 0, 0, 0), 20);
    }

    private static void feedHighestByteFirst() {
        SlipHouse house = new SlipHouse();
        house.book(1, 1);
        house.feed(0x61626364, 0x65666768, 0, 0, 0);
        Check.due("slip of eight letters", house.slip(0, 8), 0);
        for (int i = 0; i < 8; i++) {
            Check.due("letter " + i, house.where(0, 10 + i), 'a' + i);
        }
        house.feed(0x7a000000, 0, 0, 0, 0);
        house.feed(0x79000000, 0, 0, 0, 0);
        house.slip(0, 1);
        Check.due("what was fed first is first", house.where(1, 10), 'z');
        house.feed(0xe1000000, 0, 0, 0, 0);
        Check.due("byte 225 is no letter", house.slip(0, 1), NONE);
    }

    private static void books() {
        SlipHouse house = new SlipHouse();
        Check.due("book(1, 2000)", house.book(1, 2000), 0);
        Check.due("book of a year", house.book(7, 7), 1);
        Check.due("book(2000, 2000)", house.book(2000, 2000), 2);
        Check.due("book(0, 5)", house.book(0, 5), NONE);
        Check.due("book(5, 4)", house.book(5, 4), NONE);
        Check.due("book(1999, 2001)", house.book(1999, 2001), NONE);
        Check.due("book(-3, -2)", house.book(-3, -2), NONE);
        Check.due("book(2001, 2001)", house.book(2001, 2001), NONE);
        Check.due("book at the ints' ends", house.book(Integer.MIN_VALUE, Integer.MAX_VALUE), NONE);
        Check.due("books", house.count(0), 3);
    }

    private static void beforesTighten() {
        SlipHouse house = new SlipHouse();
        house.book(1500, 1510);
        house.book(1490, 1505);
        house.book(1480, 1520);
        Check.due("before(0, 1)", house.before(0, 1), true);
        span(house, 0, 1500, 1504);
        span(house, 1, 1501, 1505);
        span(house, 2, 1480, 1520);
        Check.due("before(1, 2)", house.before(1, 2), true);
        span(house, 2, 1502, 1520);
        Check.due("before(2, 0)", house.before(2, 0), false);
        Check.due("befores", house.count(10), 2);
        span(house, 0, 1500, 1504);
        Check.due("told from", house.span(1, 2), 1490);
        Check.due("told to", house.span(1, 3), 1505);
    }

    private static void beforesInAnyOrder() {
        SlipHouse house = new SlipHouse();
        for (int b = 0; b < 4; b++) {
            house.book(100, 103);
        }
        Check.due("before(2, 3)", house.before(2, 3), true);
        Check.due("before(1, 2)", house.before(1, 2), true);
        Check.due("before(0, 1)", house.before(0, 1), true);
        for (int b = 0; b < 4; b++) {
            span(house, b, 100 + b, 100 + b);
        }
        Check.due("a way told shorter", house.before(0, 3), true);
        house.book(100, 103);
        Check.due("no year is left ahead of it", house.before(4, 0), false);
        Check.due("nor behind it", house.before(3, 4), false);
        span(house, 4, 100, 103);
        Check.due("befores", house.count(10), 4);
    }

    private static void span(SlipHouse house, int b, int first, int last) {
        Check.due("first year of book " + b, house.span(b, 0), first);
        Check.due("last year of book " + b, house.span(b, 1), last);
    }

    private static void beforesRefused() {
        SlipHouse house = new SlipHouse();
        house.book(10, 20);
        house.book(10, 20);
        house.book(5, 10);
        Check.due("before itself", house.before(0, 0), false);
        Check.due("before no book", house.before(0, 3), false);
        Check.due("no book before", house.before(-1, 0), false);
        Check.due("book 10 to 20 before 5 to 10", house.before(0, 2), false);
        Check.due("before(0, 1)", house.before(0, 1), true);
        Check.due("told already", house.before(0, 1), false);
        Check.due("the other way", house.before(1, 0), false);
        Check.due("befores", house.count(10), 1);
        span(house, 0, 10, 19);
        span(house, 1, 11, 20);
        span(house, 2, 5, 10);
    }

    private static void spans() {
        SlipHouse house = new SlipHouse();
        house.book(10, 20);
        house.book(30, 40);
        Check.due("slips of a book without any", house.span(1, 4), 0);
        Houses.slip(house, 1, "a");
        Houses.slip(house, 1, "b");
        Houses.slip(house, 0, "c");
        Check.due("slips of book 0", house.span(0, 4), 1);
        Check.due("slips of book 1", house.span(1, 4), 2);
        Check.due("what 5", house.span(0, 5), NONE);
        Check.due("what -1", house.span(0, -1), NONE);
        Check.due("book 2", house.span(2, 0), NONE);
        Check.due("book -1", house.span(-1, 0), NONE);
    }
}
