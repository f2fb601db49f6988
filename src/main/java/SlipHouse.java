/**
 * A house of slips: words as books wrote them, sorted to entries and to the trees of their senses.
 * What each call promises is told in the document, ../shared/DOC.md; its words are used here.
 */
public final class SlipHouse {
    public static final int NONE = -1;

    private static final int MOST_BOOKS = 30;
    private static final int MOST_BEFORES = 60;
    private static final int MOST_SLIPS = 120;
    private static final int MOST_ENTRIES = 12;
    private static final int MOST_FORMS = 5;
    private static final int MOST_RULES = 10;
    private static final int MOST_RULE_LETTERS = 2;
    private static final int MOST_SENSES = 40;
    private static final int MOST_POINTERS = 20;
    private static final int MOST_EDITIONS = 8;
    private static final int MOST_LETTERS = 8;
    private static final int LAST_YEAR = 2000;
    private static final int FEED_BYTES = 20;
    private static final int MOST_TAPE_BYTES = 40;
    private static final int NOT_THERE = -2;
    private static final int FLAW_UNIT = 64;
    private static final int LETTERS_FROM = 10;
    private static final int HEAPS_FROM = 20;

    private final Tape tape;
    private final Books books;
    private final Rules rules;
    private final Entries entries;
    private final Slips slips;
    private final Senses senses;
    private final Witnesses witnesses;
    private final Pointers pointers;
    private final Editions editions;
    private final Printer printer;

    public SlipHouse() {
        tape = new Tape();
        books = new Books();
        rules = new Rules();
        entries = new Entries(rules);
        slips = new Slips(rules);
        senses = new Senses();
        witnesses = new Witnesses(books, slips, senses);
        pointers = new Pointers();
        editions = new Editions(slips);
        printer = new Printer(entries, slips, senses, witnesses, pointers);
    }

    public int feed(int a, int b, int c, int d, int e) {
        if (tape.size + FEED_BYTES > MOST_TAPE_BYTES) {
            return NONE;
        }
        tape.addFour(a);
        tape.addFour(b);
        tape.addFour(c);
        tape.addFour(d);
        tape.addFour(e);
        return tape.size;
    }

    public int book(int from, int to) {
        if (!areYears(from, to) || books.size >= MOST_BOOKS) {
            return NONE;
        }
        return books.add(from, to);
    }

    public boolean before(int a, int b) {
        return books.has(a) && books.has(b) && a != b && books.addBefore(a, b);
    }

    public int span(int b, int what) {
        if (!books.has(b)) {
            return NONE;
        }
        switch (what) {
            case 0: return books.first[b];
            case 1: return books.last[b];
            case 2: return books.toldFrom[b];
            case 3: return books.toldTo[b];
            case 4: return slips.ofBook(b);
            default: return NONE;
        }
    }

    public int slip(int book, int n) {
        if (!books.has(book) || slips.size >= MOST_SLIPS || !tapeHasWord(n)) {
            return NONE;
        }
        long word = tape.takeWord(n);
        return word == Words.NO_WORD ? NONE : slips.add(book, word);
    }

    public int entry(int n, int from, int to) {
        if (!areYears(from, to) || entries.size >= MOST_ENTRIES || !tapeHasWord(n)) {
            return NONE;
        }
        long word = tape.takeWord(n);
        return word == Words.NO_WORD ? NONE : entries.add(word, from, to);
    }

    public int form(int e, int n, int from, int to) {
        if (!areYears(from, to) || !entries.hasRoomForForm(e) || !tapeHasWord(n)) {
            return NONE;
        }
        long word = tape.takeWord(n);
        return word == Words.NO_WORD ? NONE : entries.addForm(e, word, from, to);
    }

    public int rule(int n, int m) {
        if (!isRuleLength(n) || !isRuleLength(m) || tape.size < n + m || rules.size >= MOST_RULES) {
            return NONE;
        }
        long old = tape.wordAt(0, n);
        long fresh = tape.wordAt(n, m);
        tape.clear();
        if (old == Words.NO_WORD || fresh == Words.NO_WORD || old == fresh) {
            return NONE;
        }
        int r = rules.add(old, fresh);
        entries.forms.addNeighbours(r);
        slips.words.addNeighbours(r);
        return r;
    }

    public int fits(int s, int e) {
        if (!slips.has(s) || !entries.has(e)) {
            return NONE;
        }
        return isFit(s, e) ? 1 : 0;
    }

    public int sort() {
        int sorted = 0;
        for (int s = 0; s < slips.size; s++) {
            if (slips.isLoose(s) && entriesFitted(s) == 1) {
                slips.place(s, firstEntryFitted(s), NONE);
                sorted++;
            }
        }
        return sorted;
    }

    public int sense(int e, int under) {
        if (!entries.has(e) || !isTopOrSenseOf(under, e)) {
            return NONE;
        }
        return senses.add(e, under);
    }

    public boolean put(int s, int e, int t) {
        if (!slips.has(s) || slips.standsAt(s, e, t)) {
            return false;
        }
        boolean toLoose = e == NONE && t == NONE;
        if (!toLoose && !(entries.has(e) && isTopOrSenseOf(t, e))) {
            return false;
        }
        slips.place(s, e, t);
        return true;
    }

    public boolean move(int a, int b) {
        if (!senses.has(a) || !isTopOrSenseOf(b, senses.entry[a])) {
            return false;
        }
        if (senses.parent[a] == b || senses.isWithin(b, a)) {
            return false;
        }
        senses.parent[a] = b;
        return true;
    }

    public boolean join(int a, int b) {
        if (!senses.has(a) || !senses.has(b) || senses.entry[a] != senses.entry[b] || senses.isWithin(b, a)) {
            return false;
        }
        slips.moveAll(a, b);
        senses.moveAllUnder(a, b);
        forgetSense(a);
        return true;
    }

    public int part(int a) {
        if (!senses.has(a)) {
            return NONE;
        }
        return senses.add(senses.entry[a], senses.parent[a]);
    }

    public boolean drop(int a) {
        if (!senses.has(a) || senses.justUnder(a) > 0 || slips.at(senses.entry[a], a) > 0) {
            return false;
        }
        forgetSense(a);
        return true;
    }

    public int point(int a, int b) {
        if (!senses.has(a) || !senses.has(b) || a == b || pointers.size >= MOST_POINTERS) {
            return NONE;
        }
        return pointers.add(a, b);
    }

    public boolean lead(int p, int b) {
        if (!pointers.has(p) || !pointers.isLoose(p)) {
            return false;
        }
        if (b == NONE) {
            pointers.remove(p);
            return true;
        }
        if (!senses.has(b) || pointers.from[p] == b) {
            return false;
        }
        pointers.to[p] = b;
        return true;
    }

    public int told(int a, int what) {
        if (!senses.has(a)) {
            return NONE;
        }
        witnesses.gather();
        if (what >= 4 && what <= 8) {
            return witnesses.all[a] == 0 ? NONE : toldYears(witnesses.allBooks[a], what);
        }
        switch (what) {
            case 0: return senses.entry[a];
            case 1: return senses.parent[a];
            case 2: return witnesses.own[a];
            case 3: return witnesses.all[a];
            case 9: return witnesses.place[a];
            case 10: return senses.justUnder(a);
            case 11: return senses.depth(a);
            default: return NONE;
        }
    }

    public int older(int a, int b) {
        if (!senses.has(a) || !senses.has(b)) {
            return NONE;
        }
        witnesses.gather();
        if (witnesses.all[a] == 0 || witnesses.all[b] == 0) {
            return NONE;
        }
        if (books.areSurelyOlder(witnesses.allBooks[a], witnesses.allBooks[b])) {
            return 1;
        }
        return books.areSurelyOlder(witnesses.allBooks[b], witnesses.allBooks[a]) ? 2 : 0;
    }

    public int flaw(int i) {
        witnesses.gather();
        int seen = 0;
        for (int pair = 0; pair < FLAW_UNIT * MOST_SENSES; pair++) {
            if (witnesses.isFlaw(pair / FLAW_UNIT, pair % FLAW_UNIT)) {
                if (seen == i) {
                    return pair;
                }
                seen++;
            }
        }
        return NONE;
    }

    public int where(int s, int what) {
        if (!slips.has(s)) {
            return NONE;
        }
        switch (what) {
            case 0: return slips.entry[s];
            case 1: return slips.sense[s];
            case 2: return isInDoubt(s) ? 1 : 0;
            case 3: return slips.book[s];
            case 4: return Words.lettersIn(slips.words.wordAt(s));
            default: return what < LETTERS_FROM ? NONE : Words.letterAt(slips.words.wordAt(s), what - LETTERS_FROM);
        }
    }

    public int edition() {
        if (pointers.loose() > 0 || editions.size >= MOST_EDITIONS) {
            return NONE;
        }
        return editions.add();
    }

    public int as(int e, int s, int what) {
        if (!editions.has(e) || !slips.has(s)) {
            return NONE;
        }
        switch (what) {
            case 0: return editions.entryOf(e, s);
            case 1: return editions.senseOf(e, s);
            default: return NONE;
        }
    }

    public int differ(int a, int b, int i) {
        if (!editions.has(a) || !editions.has(b)) {
            return NONE;
        }
        int seen = 0;
        for (int s = 0; s < slips.size; s++) {
            if (editions.isOtherwise(a, b, s)) {
                if (seen == i) {
                    return s;
                }
                seen++;
            }
        }
        return i == NONE ? seen : NONE;
    }

    public int print(int e) {
        return entries.has(e) ? printer.compose(e) : NONE;
    }

    public int octet(int i) {
        return printer.byteAt(i);
    }

    public int count(int what) {
        switch (what) {
            case 0: return books.size;
            case 1: return slips.size;
            case 2: return entries.size;
            case 3: return rules.size;
            case 4: return senses.inUse();
            case 5: return pointers.size;
            case 6: return pointers.loose();
            case 7: return slips.at(NONE, NONE);
            case 8: return slipsInDoubt();
            case 9: return editions.size;
            case 10: return books.befores;
            case 11: return flaws();
            case 12: return tape.size;
            default: return entries.has(what - HEAPS_FROM) ? slips.at(what - HEAPS_FROM, NONE) : NONE;
        }
    }

    private static boolean areYears(int from, int to) {
        return from >= 1 && from <= to && to <= LAST_YEAR;
    }

    private static boolean isRuleLength(int n) {
        return n >= 1 && n <= MOST_RULE_LETTERS;
    }

    private boolean tapeHasWord(int n) {
        return n >= 1 && n <= MOST_LETTERS && n <= tape.size;
    }

    private boolean isTopOrSenseOf(int t, int e) {
        return t == NONE || senses.has(t) && senses.entry[t] == e;
    }

    private boolean isFit(int s, int e) {
        int b = slips.book[s];
        if (!books.has(b)) {
            return false;
        }
        for (int i = 0; i < entries.formsOf[e]; i++) {
            int f = Entries.formOf(e, i);
            if (entries.isSpelledIn(f, books.first[b], books.last[b]) && entries.forms.meet(f, slips.words, s)) {
                return true;
            }
        }
        return false;
    }

    private int entriesFitted(int s) {
        int fitted = 0;
        for (int e = 0; e < entries.size; e++) {
            if (isFit(s, e)) {
                fitted++;
            }
        }
        return fitted;
    }

    private int firstEntryFitted(int s) {
        for (int e = 0; e < entries.size; e++) {
            if (isFit(s, e)) {
                return e;
            }
        }
        return NONE;
    }

    private boolean isInDoubt(int s) {
        return slips.isLoose(s) && entriesFitted(s) > 1;
    }

    private int slipsInDoubt() {
        int doubts = 0;
        for (int s = 0; s < slips.size; s++) {
            if (isInDoubt(s)) {
                doubts++;
            }
        }
        return doubts;
    }

    private int toldYears(int ofBooks, int what) {
        switch (what) {
            case 4: return books.least(books.first, ofBooks);
            case 5: return books.least(books.last, ofBooks);
            case 6: return books.greatest(books.first, ofBooks);
            case 7: return books.greatest(books.last, ofBooks);
            default: return books.widestGap(ofBooks);
        }
    }

    private int flaws() {
        witnesses.gather();
        int flaws = 0;
        for (int pair = 0; pair < FLAW_UNIT * MOST_SENSES; pair++) {
            if (witnesses.isFlaw(pair / FLAW_UNIT, pair % FLAW_UNIT)) {
                flaws++;
            }
        }
        return flaws;
    }

    private void forgetSense(int a) {
        senses.remove(a);
        pointers.forget(a);
    }

    /** The bytes that were fed and not yet taken. */
    private static final class Tape {
        private final int[] bytes = new int[MOST_TAPE_BYTES];
        private int size;

        void addFour(int four) {
            for (int shift = 24; shift >= 0 && size < bytes.length; shift -= 8) {
                bytes[size] = (four >>> shift) & 255;
                size++;
            }
        }

        void clear() {
            size = 0;
        }

        /** The first n bytes as a word, or NO_WORD; the tape is empty then, either way. */
        long takeWord(int n) {
            long word = wordAt(0, n);
            clear();
            return word;
        }

        long wordAt(int start, int n) {
            long word = Words.NO_WORD;
            for (int i = start; i < start + n; i++) {
                if (i < 0 || i >= size || bytes[i] < 'a' || bytes[i] > 'z') {
                    return Words.NO_WORD;
                }
                word = Words.append(word, bytes[i]);
            }
            return word;
        }
    }

    /** The books with their spans, and the befores. Sets of books are bits of an int: there are 30 at most. */
    private static final class Books {
        /** A year behind all others: where nothing has a first year, it comes last by itself. */
        private static final int NEVER = LAST_YEAR + 1;

        private final int[] toldFrom = new int[MOST_BOOKS];
        private final int[] toldTo = new int[MOST_BOOKS];
        private final int[] first = new int[MOST_BOOKS];
        private final int[] last = new int[MOST_BOOKS];
        /** Of each book, those that are behind it by one before or several. */
        private final int[] behind = new int[MOST_BOOKS];
        private final int[] earlier = new int[MOST_BEFORES];
        private final int[] later = new int[MOST_BEFORES];
        private int size;
        private int befores;

        boolean has(int b) {
            return b >= 0 && b < size;
        }

        int add(int from, int to) {
            int b = size;
            if (b >= MOST_BOOKS) {
                return NONE;
            }
            toldFrom[b] = from;
            toldTo[b] = to;
            first[b] = from;
            last[b] = to;
            size++;
            return b;
        }

        boolean addBefore(int a, int b) {
            if (befores >= MOST_BEFORES || wasTold(a, b)) {
                return false;
            }
            earlier[befores] = a;
            later[befores] = b;
            befores++;
            if (!tighten()) {
                befores--;
                tighten();
                return false;
            }
            setBehind(a, b);
            return true;
        }

        private boolean wasTold(int a, int b) {
            for (int k = 0; k < befores; k++) {
                if (earlier[k] == a && later[k] == b) {
                    return true;
                }
            }
            return false;
        }

        /** Draws the spans from the told ones anew; false if some book has no year then. */
        private boolean tighten() {
            for (int b = 0; b < size; b++) {
                first[b] = toldFrom[b];
                last[b] = toldTo[b];
            }
            boolean moved = true;
            // a chain of befores is shorter than the number of books: what moves after as many rounds is a ring
            for (int round = 0; moved && round < MOST_BOOKS; round++) {
                moved = tightenOnce();
            }
            return !moved && allHaveYears();
        }

        private boolean tightenOnce() {
            boolean moved = false;
            for (int k = 0; k < befores; k++) {
                int a = earlier[k];
                int b = later[k];
                if (first[b] <= first[a]) {
                    first[b] = first[a] + 1;
                    moved = true;
                }
                if (last[a] >= last[b]) {
                    last[a] = last[b] - 1;
                    moved = true;
                }
            }
            return moved;
        }

        private boolean allHaveYears() {
            for (int b = 0; b < size; b++) {
                if (first[b] > last[b]) {
                    return false;
                }
            }
            return true;
        }

        private void setBehind(int a, int b) {
            int more = (1 << b) | behind[b];
            for (int x = 0; x < size; x++) {
                if (x == a || isIn(a, behind[x])) {
                    behind[x] |= more;
                }
            }
        }

        private static boolean isIn(int b, int set) {
            return ((set >>> b) & 1) == 1;
        }

        /** The least of the years that the set's books have; NEVER if it has no books. */
        int least(int[] years, int set) {
            int least = NEVER;
            for (int b = 0; b < size && b < years.length; b++) {
                if (isIn(b, set)) {
                    least = Math.min(least, years[b]);
                }
            }
            return least;
        }

        int greatest(int[] years, int set) {
            int greatest = 0;
            for (int b = 0; b < size && b < years.length; b++) {
                if (isIn(b, set)) {
                    greatest = Math.max(greatest, years[b]);
                }
            }
            return greatest;
        }

        int widestGap(int set) {
            int widest = 0;
            for (int b = 0; b < size; b++) {
                if (isIn(b, set)) {
                    widest = Math.max(widest, gapAhead(b, set));
                }
            }
            return widest;
        }

        /** How many years just ahead of book b are in no span, if one of the set's books begins ahead of it. */
        private int gapAhead(int b, int set) {
            int seenTo = first[b];
            boolean isFirst = true;
            for (int c = 0; c < size; c++) {
                if (isIn(c, set) && first[c] < first[b]) {
                    seenTo = isFirst ? last[c] : Math.max(seenTo, last[c]);
                    isFirst = false;
                }
            }
            return Math.max(0, first[b] - seenTo - 1);
        }

        /** Whether witnesses in these books make a sense surely older than one with witnesses in those. */
        boolean areSurelyOlder(int these, int those) {
            if (least(last, these) < least(first, those)) {
                return true;
            }
            for (int b = 0; b < size; b++) {
                if (isIn(b, these) && (those & ~behind[b]) == 0) {
                    return true;
                }
            }
            return false;
        }
    }

    /** The rules of spelling: letters, and those that may come for them. */
    private static final class Rules {
        private final long[] old = new long[MOST_RULES];
        private final long[] fresh = new long[MOST_RULES];
        private int size;

        int add(long oldLetters, long freshLetters) {
            int r = size;
            if (r >= MOST_RULES) {
                return NONE;
            }
            old[r] = oldLetters;
            fresh[r] = freshLetters;
            size++;
            return r;
        }
    }

    /**
     * Words, each with its neighbours: those that one change makes of it or, of words that are read back, those that
     * one change makes into it. So a word leads to another one by two changes at most if the row of the one and the
     * row, read back, of the other have a word together.
     * A word is a long, five bits a letter (a is 1), the last letter lowest.
     */
    private static final class Words {
        private static final long NO_WORD = 0;
        private static final int LETTER_BITS = 5;
        private static final long LETTER_MASK = 31;
        private static final int MOST_IN_ROW = 1 + MOST_RULES * MOST_LETTERS;

        private final Rules rules;
        private final boolean readBack;
        /** A row for each word: itself, then its neighbours. */
        private final long[][] rows;
        private final int[] lengths;

        Words(int most, Rules rules, boolean readBack) {
            this.rules = rules;
            this.readBack = readBack;
            rows = new long[most][MOST_IN_ROW];
            lengths = new int[most];
        }

        boolean has(int i) {
            return i >= 0 && i < rows.length && lengths[i] > 0;
        }

        void set(int i, long word) {
            if (i < 0 || i >= rows.length) {
                return;
            }
            rows[i][0] = word;
            lengths[i] = 1;
            for (int r = 0; r < rules.size; r++) {
                addNeighboursOf(i, r);
            }
        }

        long wordAt(int i) {
            return has(i) ? rows[i][0] : NO_WORD;
        }

        /** Tells all words that there is a rule r now. */
        void addNeighbours(int r) {
            for (int i = 0; i < rows.length; i++) {
                if (has(i)) {
                    addNeighboursOf(i, r);
                }
            }
        }

        private void addNeighboursOf(int i, int r) {
            if (r < 0 || r >= rules.size) {
                return;
            }
            long old = readBack ? rules.fresh[r] : rules.old[r];
            long fresh = readBack ? rules.old[r] : rules.fresh[r];
            for (int at = 0; at < MOST_LETTERS; at++) {
                long word = changed(rows[i][0], at, old, fresh);
                if (word != NO_WORD && lengths[i] < MOST_IN_ROW) {
                    rows[i][lengths[i]] = word;
                    lengths[i]++;
                }
            }
        }

        /** Whether row i of these words and row j of the others have a word together. */
        boolean meet(int i, Words others, int j) {
            if (!has(i) || !others.has(j)) {
                return false;
            }
            for (int k = 0; k < lengths[i]; k++) {
                for (int l = 0; l < others.lengths[j]; l++) {
                    if (rows[i][k] == others.rows[j][l]) {
                        return true;
                    }
                }
            }
            return false;
        }

        static long append(long word, int letter) {
            return (word << LETTER_BITS) | (letter - 'a' + 1);
        }

        /** How many letters a word has; of what is longer than a word, one more than a word can have. */
        static int lettersIn(long word) {
            int letters = 0;
            while (letters <= MOST_LETTERS && word >>> (LETTER_BITS * letters) != 0) {
                letters++;
            }
            return letters;
        }

        /** Letter i of a word, from 0 on; NONE if it has not so many. */
        static int letterAt(long word, int i) {
            int behind = lettersIn(word) - 1 - i;
            if (i < 0 || behind < 0) {
                return NONE;
            }
            return 'a' - 1 + (int) ((word >>> (LETTER_BITS * behind)) & LETTER_MASK);
        }

        /** The word with the old letters, that have `at` letters behind them, changed for fresh ones; or NO_WORD. */
        private static long changed(long word, int at, long old, long fresh) {
            int freshBits = LETTER_BITS * lettersIn(fresh);
            int oldBits = LETTER_BITS * lettersIn(old);
            int tailBits = LETTER_BITS * at;
            long front = word >>> tailBits;
            if (lowest(oldBits, front) != old) {
                return NO_WORD;
            }
            long tail = lowest(tailBits, word);
            long result = ((((front >>> oldBits) << freshBits) | fresh) << tailBits) | tail;
            return lettersIn(result) > MOST_LETTERS ? NO_WORD : result;
        }

        private static long lowest(int bits, long word) {
            return word & ((1L << bits) - 1);
        }
    }

    /** The entries; form i of entry e stands in the rows of all forms at formOf(e, i), the head first. */
    private static final class Entries {
        private final int[] formsOf = new int[MOST_ENTRIES];
        private final int[] from = new int[MOST_ENTRIES * MOST_FORMS];
        private final int[] to = new int[MOST_ENTRIES * MOST_FORMS];
        private final Words forms;
        private int size;

        Entries(Rules rules) {
            forms = new Words(MOST_ENTRIES * MOST_FORMS, rules, false);
        }

        static int formOf(int e, int i) {
            return e * MOST_FORMS + i;
        }

        boolean has(int e) {
            return e >= 0 && e < size;
        }

        boolean hasRoomForForm(int e) {
            return has(e) && formsOf[e] < MOST_FORMS;
        }

        int add(long head, int firstYear, int lastYear) {
            int e = size;
            if (e >= MOST_ENTRIES) {
                return NONE;
            }
            size++;
            addForm(e, head, firstYear, lastYear);
            return e;
        }

        int addForm(int e, long word, int firstYear, int lastYear) {
            if (!hasRoomForForm(e)) {
                return NONE;
            }
            int f = formOf(e, formsOf[e]);
            forms.set(f, word);
            from[f] = firstYear;
            to[f] = lastYear;
            formsOf[e]++;
            return formsOf[e];
        }

        /** Whether form f was a spelling in one of the years from the first to the last at least. */
        boolean isSpelledIn(int f, int first, int last) {
            return f >= 0 && f < from.length && from[f] <= last && first <= to[f];
        }

        long head(int e) {
            return has(e) ? forms.wordAt(formOf(e, 0)) : Words.NO_WORD;
        }
    }

    /** The slips, and where each stands: a loose one has entry NONE, one in a heap has sense NONE. */
    private static final class Slips {
        private final int[] book = new int[MOST_SLIPS];
        private final int[] entry = new int[MOST_SLIPS];
        private final int[] sense = new int[MOST_SLIPS];
        private final Words words;
        private int size;

        Slips(Rules rules) {
            words = new Words(MOST_SLIPS, rules, true);
        }

        boolean has(int s) {
            return s >= 0 && s < size;
        }

        int add(int inBook, long word) {
            int s = size;
            if (s >= MOST_SLIPS) {
                return NONE;
            }
            size++;
            book[s] = inBook;
            words.set(s, word);
            place(s, NONE, NONE);
            return s;
        }

        void place(int s, int e, int t) {
            if (has(s)) {
                entry[s] = e;
                sense[s] = t;
            }
        }

        boolean isLoose(int s) {
            return standsAt(s, NONE, NONE);
        }

        boolean standsAt(int s, int e, int t) {
            return has(s) && entry[s] == e && sense[s] == t;
        }

        /** How many stand at sense t of entry e itself, in its heap (t NONE), or are loose (both NONE). */
        int at(int e, int t) {
            int there = 0;
            for (int s = 0; s < size; s++) {
                if (standsAt(s, e, t)) {
                    there++;
                }
            }
            return there;
        }

        int ofBook(int b) {
            int there = 0;
            for (int s = 0; s < size; s++) {
                if (book[s] == b) {
                    there++;
                }
            }
            return there;
        }

        void moveAll(int fromSense, int toSense) {
            for (int s = 0; s < size; s++) {
                if (sense[s] == fromSense) {
                    sense[s] = toSense;
                }
            }
        }
    }

    /** The trees of senses; a number that is free has entry NONE. */
    private static final class Senses {
        private final int[] entry = new int[MOST_SENSES];
        private final int[] parent = new int[MOST_SENSES];

        Senses() {
            for (int t = 0; t < MOST_SENSES; t++) {
                entry[t] = NONE;
                parent[t] = NONE;
            }
        }

        boolean has(int t) {
            return t >= 0 && t < MOST_SENSES && entry[t] != NONE;
        }

        int add(int e, int under) {
            for (int t = 0; t < MOST_SENSES; t++) {
                if (!has(t)) {
                    entry[t] = e;
                    parent[t] = under;
                    return t;
                }
            }
            return NONE;
        }

        void remove(int t) {
            if (has(t)) {
                entry[t] = NONE;
                parent[t] = NONE;
            }
        }

        int inUse() {
            int used = 0;
            for (int t = 0; t < MOST_SENSES; t++) {
                if (has(t)) {
                    used++;
                }
            }
            return used;
        }

        int justUnder(int a) {
            int under = 0;
            for (int t = 0; t < MOST_SENSES; t++) {
                if (has(t) && parent[t] == a) {
                    under++;
                }
            }
            return under;
        }

        void moveAllUnder(int a, int b) {
            for (int t = 0; t < MOST_SENSES; t++) {
                if (has(t) && parent[t] == a) {
                    parent[t] = b;
                }
            }
        }

        int depth(int a) {
            int depth = 0;
            int t = a;
            while (has(t) && depth < MOST_SENSES) {
                depth++;
                t = parent[t];
            }
            return depth;
        }

        /** Whether t is a or under it, at any depth. */
        boolean isWithin(int t, int a) {
            int up = t;
            for (int step = 0; step < MOST_SENSES && has(up); step++) {
                if (up == a) {
                    return true;
                }
                up = parent[up];
            }
            return false;
        }

        boolean areBeside(int a, int b) {
            return has(a) && has(b) && entry[a] == entry[b] && parent[a] == parent[b];
        }
    }

    /** What the slips tell of each sense, gathered for each call that asks: slips, senses, spans may have changed. */
    private static final class Witnesses {
        private final Books books;
        private final Slips slips;
        private final Senses senses;
        private final int[] own = new int[MOST_SENSES];
        private final int[] ownBooks = new int[MOST_SENSES];
        private final int[] all = new int[MOST_SENSES];
        private final int[] allBooks = new int[MOST_SENSES];
        private final int[] firstFrom = new int[MOST_SENSES];
        private final int[] firstTo = new int[MOST_SENSES];
        /** Places in the order, from 1 on. */
        private final int[] place = new int[MOST_SENSES];

        Witnesses(Books books, Slips slips, Senses senses) {
            this.books = books;
            this.slips = slips;
            this.senses = senses;
        }

        void gather() {
            for (int t = 0; t < MOST_SENSES; t++) {
                own[t] = 0;
                ownBooks[t] = 0;
                all[t] = 0;
                allBooks[t] = 0;
            }
            for (int s = 0; s < slips.size; s++) {
                addSlip(slips.sense[s], 1 << slips.book[s]);
            }
            for (int t = 0; t < MOST_SENSES; t++) {
                if (senses.has(t)) {
                    firstFrom[t] = books.least(books.first, allBooks[t]);
                    firstTo[t] = books.least(books.last, allBooks[t]);
                }
            }
            for (int t = 0; t < MOST_SENSES; t++) {
                if (senses.has(t)) {
                    place[t] = placeOf(t);
                }
            }
        }

        private void addSlip(int t, int ofBook) {
            if (!senses.has(t)) {
                return;
            }
            own[t]++;
            ownBooks[t] |= ofBook;
            int up = t;
            for (int step = 0; step < MOST_SENSES && senses.has(up); step++) {
                all[up]++;
                allBooks[up] |= ofBook;
                up = senses.parent[up];
            }
        }

        private int placeOf(int a) {
            int ahead = 0;
            for (int t = 0; t < MOST_SENSES; t++) {
                if (senses.areBeside(t, a) && isAhead(t, a)) {
                    ahead++;
                }
            }
            return ahead + 1;
        }

        /** Those without witnesses come last by their years: these are NEVER. */
        private boolean isAhead(int a, int b) {
            if (firstFrom[a] != firstFrom[b]) {
                return firstFrom[a] < firstFrom[b];
            }
            if (firstTo[a] != firstTo[b]) {
                return firstTo[a] < firstTo[b];
            }
            return a < b;
        }

        boolean isFlaw(int under, int over) {
            return under != over && hasOwn(under) && hasOwn(over) && senses.isWithin(under, over)
                && books.areSurelyOlder(ownBooks[under], ownBooks[over]);
        }

        private boolean hasOwn(int t) {
            return senses.has(t) && own[t] > 0;
        }
    }

    /** The pointers, in the order in which they were told; a loose one leads to NONE. */
    private static final class Pointers {
        private final int[] from = new int[MOST_POINTERS];
        private final int[] to = new int[MOST_POINTERS];
        private int size;

        boolean has(int p) {
            return p >= 0 && p < size;
        }

        boolean isLoose(int p) {
            return has(p) && to[p] == NONE;
        }

        int loose() {
            int loose = 0;
            for (int p = 0; p < size; p++) {
                if (isLoose(p)) {
                    loose++;
                }
            }
            return loose;
        }

        int add(int a, int b) {
            int p = size;
            if (p >= MOST_POINTERS) {
                return NONE;
            }
            from[p] = a;
            to[p] = b;
            size++;
            return p;
        }

        void remove(int p) {
            if (!has(p)) {
                return;
            }
            size--;
            for (int q = p; q < size; q++) {
                from[q] = from[q + 1];
                to[q] = to[q + 1];
            }
        }

        /** Sense a is gone: pointers to it are loose, those from it are gone. */
        void forget(int a) {
            for (int p = size - 1; p >= 0; p--) {
                if (from[p] == a) {
                    remove(p);
                } else if (to[p] == a) {
                    to[p] = NONE;
                }
            }
        }
    }

    /** Where the slips stood when each edition was made; later slips were not there. */
    private static final class Editions {
        private final Slips slips;
        private final int[] slipsIn = new int[MOST_EDITIONS];
        private final int[][] entry = new int[MOST_EDITIONS][MOST_SLIPS];
        private final int[][] sense = new int[MOST_EDITIONS][MOST_SLIPS];
        private int size;

        Editions(Slips slips) {
            this.slips = slips;
        }

        boolean has(int e) {
            return e >= 0 && e < size;
        }

        int add() {
            int e = size;
            if (e >= MOST_EDITIONS) {
                return NONE;
            }
            for (int s = 0; s < slips.size; s++) {
                entry[e][s] = slips.entry[s];
                sense[e][s] = slips.sense[s];
            }
            slipsIn[e] = slips.size;
            size++;
            return e;
        }

        int entryOf(int e, int s) {
            return wasThere(e, s) ? entry[e][s] : NOT_THERE;
        }

        int senseOf(int e, int s) {
            return wasThere(e, s) ? sense[e][s] : NOT_THERE;
        }

        private boolean wasThere(int e, int s) {
            return has(e) && s >= 0 && s < slipsIn[e];
        }

        boolean isOtherwise(int a, int b, int s) {
            return entryOf(a, s) != entryOf(b, s) || senseOf(a, s) != senseOf(b, s);
        }
    }

    /** Makes the print of an entry, and keeps the latest one. */
    private static final class Printer {
        /** Above what 40 senses and 20 pointers can fill: a mark has some 85 bytes at most. */
        private static final int MOST_BYTES = 8000;
        private static final int GREATEST_UNIT = 1000;

        private final Entries entries;
        private final Slips slips;
        private final Senses senses;
        private final Witnesses witnesses;
        private final Pointers pointers;
        private final byte[] bytes = new byte[MOST_BYTES];
        private final int[] way = new int[MOST_SENSES];
        private int size;

        Printer(Entries entries, Slips slips, Senses senses, Witnesses witnesses, Pointers pointers) {
            this.entries = entries;
            this.slips = slips;
            this.senses = senses;
            this.witnesses = witnesses;
            this.pointers = pointers;
        }

        int byteAt(int i) {
            return i >= 0 && i < size ? bytes[i] : NONE;
        }

        int compose(int e) {
            witnesses.gather();
            size = 0;
            addWord(entries.head(e));
            addByte(':');
            int t = senseAt(e, NONE, 1);
            for (int step = 0; step < MOST_SENSES && senses.has(t); step++) {
                addSense(t);
                t = senseBehind(t);
            }
            addHeap(slips.at(e, NONE));
            return size;
        }

        /** The sense of entry e, under this one, that has this place in the order; NONE if there is none. */
        private int senseAt(int e, int under, int place) {
            for (int t = 0; t < MOST_SENSES; t++) {
                if (senses.has(t) && senses.entry[t] == e && senses.parent[t] == under
                        && witnesses.place[t] == place) {
                    return t;
                }
            }
            return NONE;
        }

        /** The sense printed behind t: the first one under it, or the next one beside it or beside what it is under. */
        private int senseBehind(int t) {
            int e = senses.entry[t];
            int next = senseAt(e, t, 1);
            int up = t;
            for (int step = 0; step < MOST_SENSES && next == NONE && senses.has(up); step++) {
                next = senseAt(e, senses.parent[up], witnesses.place[up] + 1);
                up = senses.parent[up];
            }
            return next;
        }

        private void addSense(int t) {
            addByte(' ');
            addMark(t);
            addWitnesses(t);
            for (int p = 0; p < pointers.size; p++) {
                if (pointers.from[p] == t && senses.has(pointers.to[p])) {
                    addPointer(pointers.to[p]);
                }
            }
        }

        private void addMark(int t) {
            int depth = 0;
            for (int up = t; senses.has(up) && depth < way.length; up = senses.parent[up]) {
                way[depth] = witnesses.place[up];
                depth++;
            }
            for (int i = depth - 1; i >= 0; i--) {
                addNumber(way[i]);
                if (i > 0) {
                    addByte('.');
                }
            }
        }

        private void addWitnesses(int t) {
            addByte('(');
            if (witnesses.all[t] > 0) {
                addNumber(witnesses.firstFrom[t]);
                if (witnesses.firstTo[t] != witnesses.firstFrom[t]) {
                    addByte('-');
                    addNumber(witnesses.firstTo[t]);
                }
                addByte(',');
            }
            addNumber(witnesses.all[t]);
            addByte(')');
        }

        private void addPointer(int to) {
            addByte('>');
            addWord(entries.head(senses.entry[to]));
            addByte(' ');
            addMark(to);
        }

        private void addHeap(int inHeap) {
            if (inHeap > 0) {
                addByte(' ');
                addByte('+');
                addNumber(inHeap);
            }
        }

        private void addWord(long word) {
            int letters = Words.lettersIn(word);
            for (int i = 0; i < letters; i++) {
                addByte(Words.letterAt(word, i));
            }
        }

        /** Numbers here are years, places or slips: none is above 2000. */
        private void addNumber(int n) {
            for (int unit = GREATEST_UNIT; unit >= 1; unit /= 10) {
                if (n >= unit || unit == 1) {
                    addByte('0' + n / unit % 10);
                }
            }
        }

        private void addByte(int b) {
            if (size < bytes.length) {
                bytes[size] = (byte) b;
                size++;
            }
        }
    }
}
