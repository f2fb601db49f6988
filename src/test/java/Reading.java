import java.util.ArrayList;
import java.util.List;

/**
 * All that a house answers, line by line: two houses that read alike can't be told from one another. The house is made
 * anew for every hundred questions, so that none is used for more than 512 calls; calls that would change it are tried
 * on one of their own each.
 */
final class Reading {
    private static final int NONE = SlipHouse.NONE;
    private static final int QUESTIONS = 100;
    /** Above so many books and senses, the calls that change are tried no more: there would be too many of them. */
    private static final int MOST_TRIED = 12;

    private final Houses.Calls making;
    private final List<String> lines = new ArrayList<>();
    private SlipHouse house;
    private int asked;

    private Reading(Houses.Calls making) {
        this.making = making;
        house = fresh();
    }

    /** Everything but the tape. */
    static List<String> of(Houses.Calls making) {
        Reading reading = new Reading(making);
        reading.counts();
        reading.latestPrint();
        reading.books();
        reading.slips();
        reading.senses();
        reading.pointers();
        reading.editions();
        reading.entries();
        reading.nextNumbers();
        return reading.lines;
    }

    /** How many bytes the tape has, and the words that its first ones are. */
    static List<String> ofTape(Houses.Calls making) {
        Reading reading = new Reading(making);
        reading.tell("bytes of the tape", reading.house.count(12));
        for (int n = 1; n <= 8; n++) {
            SlipHouse ofSlip = reading.fresh();
            ofSlip.book(1, 1);
            int s = ofSlip.slip(0, n);
            for (int i = 0; i < n; i++) {
                reading.tell("byte " + i + " of a slip of " + n, ofSlip.where(s, 10 + i));
            }
            SlipHouse ofEntry = reading.fresh();
            reading.lines.add("an entry of " + n + ": " + Houses.printed(ofEntry, ofEntry.entry(n, 1, 1)));
        }
        return reading.lines;
    }

    private SlipHouse fresh() {
        SlipHouse made = new SlipHouse();
        making.on(made);
        return made;
    }

    /** The house that the next question is asked. */
    private SlipHouse next() {
        if (asked == QUESTIONS) {
            house = fresh();
            asked = 0;
        }
        asked++;
        return house;
    }

    private void tell(String what, int answer) {
        lines.add(what + ": " + answer);
    }

    private void tell(String what, boolean answer) {
        lines.add(what + ": " + answer);
    }

    private void counts() {
        for (int what = -1; what <= 33; what++) {
            if (what != 12) {
                tell("count(" + what + ")", next().count(what));
            }
        }
    }

    private void latestPrint() {
        int i = 0;
        int octet = next().octet(0);
        while (octet != NONE) {
            tell("octet(" + i + ")", octet);
            i++;
            octet = next().octet(i);
        }
    }

    private void books() {
        int books = next().count(0);
        for (int b = 0; b <= books; b++) {
            for (int what = 0; what <= 4; what++) {
                tell("span(" + b + ", " + what + ")", next().span(b, what));
            }
        }
        for (int a = 0; a < books && books <= MOST_TRIED; a++) {
            for (int b = 0; b < books; b++) {
                tell("before(" + a + ", " + b + ")", fresh().before(a, b));
            }
        }
    }

    private void slips() {
        int slips = next().count(1);
        int entries = next().count(2);
        for (int s = 0; s <= slips; s++) {
            for (int what = 0; what <= 18; what++) {
                tell("where(" + s + ", " + what + ")", next().where(s, what));
            }
            for (int e = 0; e < entries; e++) {
                tell("fits(" + s + ", " + e + ")", next().fits(s, e));
            }
        }
    }

    private boolean isSense(int t) {
        return next().told(t, 0) != NONE;
    }

    private void senses() {
        for (int a = 0; a < 40; a++) {
            tell("told(" + a + ", 0)", next().told(a, 0));
            for (int what = 1; what <= 11 && isSense(a); what++) {
                tell("told(" + a + ", " + what + ")", next().told(a, what));
            }
            for (int b = 0; b < 40 && isSense(a); b++) {
                tell("older(" + a + ", " + b + ")", next().older(a, b));
            }
        }
        int flaws = next().count(11);
        for (int i = 0; i <= flaws; i++) {
            tell("flaw(" + i + ")", next().flaw(i));
        }
    }

    private void pointers() {
        int pointers = next().count(5);
        int senses = next().count(4);
        for (int p = 0; p <= pointers; p++) {
            tell("lead(" + p + ", NONE)", fresh().lead(p, NONE));
            for (int b = 0; b < 40 && senses <= MOST_TRIED; b++) {
                tell("lead(" + p + ", " + b + ")", isSense(b) && fresh().lead(p, b));
            }
        }
    }

    private void editions() {
        int editions = next().count(9);
        int slips = next().count(1);
        for (int e = 0; e < editions; e++) {
            for (int s = 0; s < slips; s++) {
                tell("as(" + e + ", " + s + ", 0)", next().as(e, s, 0));
                tell("as(" + e + ", " + s + ", 1)", next().as(e, s, 1));
            }
            tell("differ(0, " + e + ", NONE)", next().differ(0, e, NONE));
            tell("differ(0, " + e + ", 0)", next().differ(0, e, 0));
        }
    }

    private void entries() {
        int entries = next().count(2);
        for (int e = 0; e < entries; e++) {
            int bytes = fresh().print(e);
            StringBuilder text = new StringBuilder();
            SlipHouse printing = house;
            for (int i = 0; i < bytes; i++) {
                if (i % QUESTIONS == 0) {
                    printing = fresh();
                    printing.print(e);
                }
                text.append((char) printing.octet(i));
            }
            lines.add("print of " + e + ": " + text);
            tell("the next form of " + e, nextForm(e));
        }
    }

    private int nextForm(int e) {
        SlipHouse tried = fresh();
        Houses.emptyTape(tried);
        Houses.feed(tried, "a");
        return tried.form(e, 1, 1, 1);
    }

    private void nextNumbers() {
        tell("the next book", fresh().book(1, 2000));
        tell("the next sense", fresh().sense(0, NONE));
        tell("the next pointer", fresh().point(0, 1));
        tell("the next edition", fresh().edition());
        tell("sorted", fresh().sort());
    }
}
