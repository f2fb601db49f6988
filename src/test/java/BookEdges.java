/** The edges of promises 1 to 5, and of what Terms say of books, befores and spans. */
final class BookEdges {
    private static final int NONE = SlipHouse.NONE;
    private static final int MIN = Integer.MIN_VALUE;
    private static final int MAX = Integer.MAX_VALUE;
    private static final Houses.Calls NEW = h -> { };
    private static final Houses.Calls SHELF = BookEdges::shelf;

    private BookEdges() {
    }

    static void run() {
        newHouse();
        newHouseRefuses();
        housesShareNothing();
        feedUpToForty();
        feedBehindTheTape();
        feedHighestByteFirst();
        bookNoSuchSpan();
        bookThirty();
        beforeNoSuchTwo();
        beforeWasTold();
        beforeSixty();
        beforeByAYear();
        beforeNoYear();
        beforeNoYearFarOff();
        beforeRings();
        spansAreWidest();
        spansOneWay();
        spanOfBook();
        spanWhat();
        spanSlips();
    }

    /** Books of 10 to 20, 10 to 20 and 40, the first before the second; slips in them; letters on the tape. */
    private static void shelf(SlipHouse house) {
        house.book(10, 20);
        house.book(10, 20);
        house.book(40, 40);
        house.before(0, 1);
        Houses.entry(house, "cat", 15, 2000);
        house.sense(0, NONE);
        house.sense(0, NONE);
        Houses.slipIn(house, 0, 0, 0);
        Houses.slipIn(house, 1, 0, 1);
        Houses.slip(house, 2, "cat");
        Houses.feed(house, "abcdefgh");
    }

    private static Houses.Calls books(int books, int from, int to) {
        return house -> Houses.books(house, books, from, to);
    }

    private static void span(String what, SlipHouse house, int b, int first, int last) {
        Check.due(what + ": first year of book " + b, house.span(b, 0), first);
        Check.due(what + ": last year of book " + b, house.span(b, 1), last);
    }

    /** P1: no books, slips, entries. */
    private static void newHouse() {
        for (int what = 0; what <= 12; what++) {
            int asked = what;
            Edge.asks("P1 count(" + what + ")", NEW, h -> h.count(asked), 0);
        }
        for (int what = 0; what <= 4; what++) {
            int asked = what;
            Edge.none("P1 span(0, " + what + ")", NEW, h -> h.span(0, asked));
            Edge.none("P1 where(0, " + what + ")", NEW, h -> h.where(0, asked));
        }
        for (int what = 0; what <= 11; what++) {
            int asked = what;
            Edge.none("P1 told(0, " + what + ")", NEW, h -> h.told(0, asked));
        }
        Edge.none("P1 count(20)", NEW, h -> h.count(20));
        Edge.none("P1 fits(0, 0)", NEW, h -> h.fits(0, 0));
        Edge.none("P1 older(0, 0)", NEW, h -> h.older(0, 0));
        Edge.none("P1 flaw(0)", NEW, h -> h.flaw(0));
        Edge.none("P1 as(0, 0, 0)", NEW, h -> h.as(0, 0, 0));
        Edge.none("P1 differ(0, 0, NONE)", NEW, h -> h.differ(0, 0, NONE));
        Edge.none("P1 print(0)", NEW, h -> h.print(0));
        Edge.none("P1 octet(0)", NEW, h -> h.octet(0));
        Edge.asks("P1 sort()", NEW, SlipHouse::sort, 0);
    }

    private static void newHouseRefuses() {
        Houses.Calls fed = h -> Houses.feed(h, "abcdefgh");
        Edge.no("P1 before(0, 1)", fed, h -> h.before(0, 1));
        Edge.none("P1 slip(0, 1)", fed, h -> h.slip(0, 1));
        Edge.none("P1 form(0, 1, 1, 2)", fed, h -> h.form(0, 1, 1, 2));
        Edge.none("P1 sense(0, NONE)", fed, h -> h.sense(0, NONE));
        Edge.no("P1 put(0, NONE, NONE)", fed, h -> h.put(0, NONE, NONE));
        Edge.no("P1 put(0, 0, NONE)", fed, h -> h.put(0, 0, NONE));
        Edge.no("P1 move(0, NONE)", fed, h -> h.move(0, NONE));
        Edge.no("P1 join(0, 1)", fed, h -> h.join(0, 1));
        Edge.none("P1 part(0)", fed, h -> h.part(0));
        Edge.no("P1 drop(0)", fed, h -> h.drop(0));
        Edge.none("P1 point(0, 1)", fed, h -> h.point(0, 1));
        Edge.no("P1 lead(0, NONE)", fed, h -> h.lead(0, NONE));
        Edge.some("P1 an edition without slips", NEW, SlipHouse::edition, 0);
    }

    private static void housesShareNothing() {
        SlipHouse other = Houses.made(SHELF);
        other.print(0);
        other.edition();
        for (int what = 0; what <= 12; what++) {
            Check.due("P1 beside another house: count(" + what + ")", new SlipHouse().count(what), 0);
        }
        Check.due("P1 beside another house: octet(0)", new SlipHouse().octet(0), NONE);
    }

    /** P2: NONE if that would be more than 40. */
    private static void feedUpToForty() {
        Houses.Calls once = h -> Houses.feed(h, "ab");
        Houses.Calls twice = once.then(h -> Houses.feed(h, "cd"));
        Edge.some("P2 twenty", NEW, h -> h.feed(1, 2, 3, 4, 5), 20);
        Edge.some("P2 forty", once, h -> h.feed(MIN, MAX, NONE, 0, 1), 40);
        Check.due("P2 forty are there", Houses.made(twice).count(12), 40);
        Edge.none("P2 sixty", twice, h -> Houses.feed(h, "ef"));
        Edge.none("P2 sixty, tried again", twice.then(h -> Houses.feed(h, "ef")), h -> Houses.feed(h, "gh"));
        Edge.some("P2 twenty when the forty were taken", SHELF.then(h -> {
            Houses.feed(h, "ij");
            h.slip(0, 1);
        }), h -> Houses.feed(h, "kl"), 20);
    }

    /** P2: the letters come behind the tape. */
    private static void feedBehindTheTape() {
        SlipHouse house = new SlipHouse();
        house.book(1, 1);
        Houses.feed(house, "pq");
        Houses.feed(house, "rs");
        Houses.feed(house, "tu");
        house.slip(0, 2);
        Check.due("P2 byte 0 of what was fed first", house.where(0, 10), 'p');
        Check.due("P2 byte 1 of it", house.where(0, 11), 'q');
    }

    /** P2: the highest byte of each int first. */
    private static void feedHighestByteFirst() {
        SlipHouse house = new SlipHouse();
        house.book(1, 1);
        house.feed(0x616c7a62, 0x63796b6a, 0x7b7b7b7b, 0, 0);
        house.slip(0, 8);
        String due = "alzbcykj";
        for (int i = 0; i < 8; i++) {
            Check.due("P2 byte " + i, house.where(0, 10 + i), due.charAt(i));
        }
    }

    /** P3: no such span; years 1 to 2000. */
    private static void bookNoSuchSpan() {
        Edge.some("P3 1 to 1", SHELF, h -> h.book(1, 1), 3);
        Edge.none("P3 0 to 1", SHELF, h -> h.book(0, 1));
        Edge.none("P3 0 to 0", SHELF, h -> h.book(0, 0));
        Edge.none("P3 -1 to 1", SHELF, h -> h.book(-1, 1));
        Edge.some("P3 2000 to 2000", SHELF, h -> h.book(2000, 2000), 3);
        Edge.none("P3 2000 to 2001", SHELF, h -> h.book(2000, 2001));
        Edge.none("P3 2001 to 2001", SHELF, h -> h.book(2001, 2001));
        Edge.some("P3 1 to 2000", SHELF, h -> h.book(1, 2000), 3);
        Edge.some("P3 7 to 7", SHELF, h -> h.book(7, 7), 3);
        Edge.none("P3 7 to 6", SHELF, h -> h.book(7, 6));
        Edge.none("P3 2000 to 1", SHELF, h -> h.book(2000, 1));
        Edge.none("P3 from the least int", SHELF, h -> h.book(MIN, 5));
        Edge.none("P3 to the greatest int", SHELF, h -> h.book(5, MAX));
        Edge.none("P3 from the least to the greatest int", SHELF, h -> h.book(MIN, MAX));
        Edge.none("P3 from the greatest to the least int", SHELF, h -> h.book(MAX, MIN));
    }

    /** P3: 30 are there; Terms: books 0 to 29. */
    private static void bookThirty() {
        Edge.some("P3 the 30th book", books(29, 5, 9), h -> h.book(1, 2), 29);
        Edge.none("P3 the 31st book", books(30, 5, 9), h -> h.book(1, 2));
        SlipHouse house = Houses.made(books(30, 5, 9));
        Check.due("P3 book 29 is there", house.span(29, 0), 5);
        Check.due("P3 a before of book 29", house.before(28, 29), true);
        Check.due("P3 a slip of book 29", Houses.slip(house, 29, "a"), 0);
        Check.due("P3 its book", house.where(0, 3), 29);
    }

    /** P4: no such two books. */
    private static void beforeNoSuchTwo() {
        Edge.yes("P4 0 and 2", SHELF, h -> h.before(0, 2));
        Edge.no("P4 0 and 3", SHELF, h -> h.before(0, 3));
        Edge.no("P4 3 and 0", SHELF, h -> h.before(3, 0));
        Edge.no("P4 -1 and 0", SHELF, h -> h.before(-1, 0));
        Edge.no("P4 0 and -1", SHELF, h -> h.before(0, -1));
        Edge.no("P4 one book, twice", SHELF, h -> h.before(0, 0));
        Edge.no("P4 no book, twice", SHELF, h -> h.before(3, 3));
        Edge.no("P4 the least int", SHELF, h -> h.before(MIN, 2));
        Edge.no("P4 the greatest int", SHELF, h -> h.before(0, MAX));
        Edge.yes("P4 28 and 29", books(30, 5, 9), h -> h.before(28, 29));
        Edge.no("P4 29 and 30", books(30, 5, 9), h -> h.before(29, 30));
        Edge.no("P4 30 and 29", books(30, 5, 9), h -> h.before(30, 29));
    }

    /** P4: it was told. */
    private static void beforeWasTold() {
        Edge.no("P4 told", SHELF, h -> h.before(0, 1));
        Houses.Calls chain = books(3, 1, 9).then(h -> h.before(0, 1)).then(h -> h.before(1, 2));
        Edge.no("P4 told first of two", chain, h -> h.before(0, 1));
        Edge.no("P4 told last of two", chain, h -> h.before(1, 2));
        Edge.yes("P4 true already, but not told", chain, h -> h.before(0, 2));
        Edge.no("P4 told at last", chain.then(h -> h.before(0, 2)), h -> h.before(0, 2));
        Houses.Calls six = books(4, 1, 9).then(h -> {
            for (int b = 1; b < 4; b++) {
                for (int a = 0; a < b; a++) {
                    h.before(a, b);
                }
            }
        });
        Check.due("P4 six befores", Houses.made(six).count(10), 6);
        Edge.no("P4 the last of six", six, h -> h.before(2, 3));
        Edge.no("P4 the fifth of six", six, h -> h.before(1, 3));
        Houses.Calls refused = books(2, 1, 9).then(h -> h.before(0, 5)).then(h -> h.before(0, 0));
        Edge.yes("P4 what was refused was not told", refused, h -> h.before(0, 1));
    }

    private static Houses.Calls befores(int most) {
        return house -> {
            Houses.books(house, 12, 1, 2000);
            for (int a = 0; a < 12; a++) {
                for (int b = a + 1; b < 12 && house.count(10) < most; b++) {
                    house.before(a, b);
                }
            }
        };
    }

    /** P4: 60 are there. */
    private static void beforeSixty() {
        Check.due("P4 59 befores", Houses.made(befores(59)).count(10), 59);
        Edge.yes("P4 the 60th", befores(59), h -> h.before(10, 11));
        Check.due("P4 60 befores", Houses.made(befores(60)).count(10), 60);
        Edge.no("P4 the 61st", befores(60), h -> h.before(10, 11));
        Edge.no("P4 the 61st, told already", befores(60), h -> h.before(0, 1));
        SlipHouse house = Houses.made(befores(59).then(h -> h.before(11, 0)));
        Check.due("P4 a refused one is none of the 60", house.before(10, 11), true);
        Check.due("P4 befores then", house.count(10), 60);
    }

    /** Terms: a was written before b by a year at least; a's last year is ahead of b's last one. */
    private static void beforeByAYear() {
        Houses.Calls two = books(2, 5, 6);
        Edge.yes("P4 two years for two books", two, h -> h.before(0, 1));
        SlipHouse house = Houses.made(two.then(h -> h.before(0, 1)));
        span("P4 two years for two books", house, 0, 5, 5);
        span("P4 two years for two books", house, 1, 6, 6);
        Edge.no("P4 one year for two books", books(2, 5, 5), h -> h.before(0, 1));
        Houses.Calls years = h -> {
            h.book(5, 5);
            h.book(6, 6);
        };
        Edge.yes("P4 5 before 6", years, h -> h.before(0, 1));
        Edge.no("P4 6 before 5", years, h -> h.before(1, 0));
    }

    /** P4: some book would have no year: a itself, or b. */
    private static void beforeNoYear() {
        Houses.Calls first = h -> {
            h.book(20, 40);
            h.book(1, 20);
            h.book(1, 21);
        };
        Edge.no("P4 20 to 40 before 1 to 20", first, h -> h.before(0, 1));
        Edge.yes("P4 20 to 40 before 1 to 21", first, h -> h.before(0, 2));
        SlipHouse house = Houses.made(first.then(h -> h.before(0, 2)));
        span("P4 a year is left", house, 0, 20, 20);
        span("P4 a year is left", house, 2, 21, 21);
        SlipHouse refused = Houses.made(first.then(h -> h.before(0, 1)));
        span("P4 refused", refused, 0, 20, 40);
        span("P4 refused", refused, 1, 1, 20);
        Check.due("P4 refused: befores", refused.count(10), 0);
    }

    /** P4: some book would have no year: one at the end of a chain. */
    private static void beforeNoYearFarOff() {
        Houses.Calls three = books(3, 10, 12).then(h -> h.before(1, 2));
        Edge.yes("P4 three years for three books", three, h -> h.before(0, 1));
        Houses.Calls four = books(4, 10, 12).then(h -> h.before(0, 1)).then(h -> h.before(2, 3));
        Edge.no("P4 three years for four books", four, h -> h.before(1, 2));
        Houses.Calls wide = h -> {
            h.book(50, 60);
            h.book(1, 100);
            h.book(1, 51);
            h.book(1, 52);
        };
        Edge.no("P4 no year for the first of three", wide.then(h -> h.before(1, 2)), h -> h.before(0, 1));
        Edge.yes("P4 one year for it", wide.then(h -> h.before(1, 3)), h -> h.before(0, 1));
        Houses.Calls late = h -> {
            h.book(50, 99);
            h.book(1, 99);
            h.book(40, 51);
            h.book(40, 52);
        };
        Edge.no("P4 no year for the last of three", late.then(h -> h.before(0, 1)), h -> h.before(1, 2));
        Edge.yes("P4 one year for that", late.then(h -> h.before(0, 1)), h -> h.before(1, 3));
    }

    /** P4: books in a ring would have no year. */
    private static void beforeRings() {
        Houses.Calls chain = books(30, 1, 2000).then(h -> {
            for (int b = 29; b > 0; b--) {
                h.before(b - 1, b);
            }
        });
        Edge.no("P4 a ring of two", chain, h -> h.before(1, 0));
        Edge.no("P4 a ring of three", chain, h -> h.before(2, 0));
        Edge.no("P4 a ring of thirty", chain, h -> h.before(29, 0));
        Edge.yes("P4 no ring", chain, h -> h.before(0, 29));
        Houses.Calls tight = books(30, 1971, 2000).then(h -> {
            for (int b = 0; b < 28; b++) {
                h.before(b, b + 1);
            }
        });
        Edge.yes("P4 thirty years for thirty books", tight, h -> h.before(28, 29));
        Houses.Calls tighter = books(30, 1972, 2000).then(h -> {
            for (int b = 0; b < 28; b++) {
                h.before(b + 1, b);
            }
        });
        Edge.no("P4 twenty-nine years for thirty books", tighter, h -> h.before(29, 28));
    }

    /** Terms: spans are the widest within the told ones such that each before holds. */
    private static void spansAreWidest() {
        SlipHouse house = new SlipHouse();
        house.book(1, 2000);
        house.book(1, 2000);
        house.book(1, 2000);
        house.before(1, 2);
        span("P5 one before", house, 0, 1, 2000);
        span("P5 one before", house, 1, 1, 1999);
        span("P5 one before", house, 2, 2, 2000);
        house.before(0, 1);
        span("P5 two befores", house, 0, 1, 1998);
        span("P5 two befores", house, 1, 2, 1999);
        span("P5 two befores", house, 2, 3, 2000);
        house.book(500, 700);
        house.before(3, 1);
        span("P5 a book between", house, 0, 1, 1998);
        span("P5 a book between", house, 1, 501, 1999);
        span("P5 a book between", house, 2, 502, 2000);
        span("P5 a book between", house, 3, 500, 700);
        house.book(600, 800);
        house.before(2, 4);
        span("P5 another one", house, 0, 1, 797);
        span("P5 another one", house, 1, 501, 798);
        span("P5 another one", house, 2, 502, 799);
        span("P5 another one", house, 3, 500, 700);
        span("P5 another one", house, 4, 600, 800);
        span("P5 years that touch", Houses.made(h -> {
            h.book(10, 20);
            h.book(21, 30);
            h.before(0, 1);
        }), 0, 10, 20);
    }

    /** Terms: first years alone are drawn, or last years alone, however the befores were told. */
    private static void spansOneWay() {
        SlipHouse firsts = new SlipHouse();
        firsts.book(500, 510);
        firsts.book(1, 600);
        firsts.book(1, 700);
        firsts.book(1, 800);
        firsts.before(2, 3);
        firsts.before(1, 2);
        firsts.before(0, 1);
        int[] first = {500, 501, 502, 503};
        int[] to = {510, 600, 700, 800};
        SlipHouse lasts = new SlipHouse();
        lasts.book(500, 510);
        lasts.book(400, 2000);
        lasts.book(300, 2000);
        lasts.book(200, 2000);
        lasts.before(3, 2);
        lasts.before(2, 1);
        lasts.before(1, 0);
        int[] last = {510, 509, 508, 507};
        int[] from = {500, 400, 300, 200};
        for (int b = 0; b < 4; b++) {
            span("P5 first years alone", firsts, b, first[b], to[b]);
            span("P5 last years alone", lasts, b, from[b], last[b]);
        }
    }

    /** P5: NONE for other books. */
    private static void spanOfBook() {
        Edge.none("P5 book -1", SHELF, h -> h.span(-1, 0));
        Edge.asks("P5 book 0", SHELF, h -> h.span(0, 1), 19);
        Edge.asks("P5 book 2", SHELF, h -> h.span(2, 0), 40);
        Edge.none("P5 book 3", SHELF, h -> h.span(3, 0));
        Edge.asks("P5 book 29", books(30, 5, 9), h -> h.span(29, 1), 9);
        Edge.none("P5 book 30", books(30, 5, 9), h -> h.span(30, 1));
        Edge.none("P5 the least int", SHELF, h -> h.span(MIN, 0));
        Edge.none("P5 the greatest int", SHELF, h -> h.span(MAX, 0));
    }

    /** P5: what 0 to 4, NONE for others. */
    private static void spanWhat() {
        int[] due = {11, 20, 10, 20, 1};
        for (int what = 0; what <= 4; what++) {
            int asked = what;
            Edge.asks("P5 what " + what, SHELF, h -> h.span(1, asked), due[what]);
        }
        Edge.asks("P5 last year drawn", SHELF, h -> h.span(0, 1), 19);
        Edge.asks("P5 last year as told", SHELF, h -> h.span(0, 3), 20);
        Edge.none("P5 what -1", SHELF, h -> h.span(1, -1));
        Edge.none("P5 what 5", SHELF, h -> h.span(1, 5));
        Edge.none("P5 what the least int", SHELF, h -> h.span(1, MIN));
        Edge.none("P5 what the greatest int", SHELF, h -> h.span(1, MAX));
    }

    /** P5: what 4, its slips: none, and 120. */
    private static void spanSlips() {
        Edge.asks("P5 no slips", books(2, 5, 9), h -> h.span(1, 4), 0);
        Houses.Calls full = books(2, 5, 9).then(h -> Houses.slips(h, 120, 1, "a"));
        Edge.asks("P5 120 slips", full, h -> h.span(1, 4), 120);
        Edge.asks("P5 none in the other book", full, h -> h.span(0, 4), 0);
    }
}
