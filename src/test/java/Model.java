import java.util.ArrayList;
import java.util.Comparator;
import java.util.HashSet;
import java.util.List;
import java.util.Set;

/** The house once more, near to the words of the document, and slow; ModelTests holds the class against it. */
final class Model {
    static final int NONE = -1;

    static final class Book {
        int from;
        int to;
        int first;
        int last;
    }

    static final class Form {
        String word;
        int from;
        int to;
    }

    static final class Slip {
        int book;
        String word;
        int entry = NONE;
        int sense = NONE;
    }

    static final class Sense {
        int entry;
        int parent;
    }

    final List<Integer> tape = new ArrayList<>();
    final List<Book> books = new ArrayList<>();
    final List<int[]> befores = new ArrayList<>();
    final List<Slip> slips = new ArrayList<>();
    final List<List<Form>> entries = new ArrayList<>();
    final List<String[]> rules = new ArrayList<>();
    final Sense[] senses = new Sense[40];
    final List<int[]> pointers = new ArrayList<>();
    final List<List<int[]>> editions = new ArrayList<>();
    String print = "";

    int feed(int... fours) {
        if (tape.size() > 20) {
            return NONE;
        }
        for (int four : fours) {
            tape.add(four >>> 24);
            tape.add(four >>> 16 & 255);
            tape.add(four >>> 8 & 255);
            tape.add(four & 255);
        }
        return tape.size();
    }

    private static boolean years(int from, int to) {
        return 1 <= from && from <= to && to <= 2000;
    }

    int book(int from, int to) {
        if (!years(from, to) || books.size() == 30) {
            return NONE;
        }
        Book book = new Book();
        book.from = from;
        book.to = to;
        books.add(book);
        draw();
        return books.size() - 1;
    }

    private boolean isBook(int b) {
        return b >= 0 && b < books.size();
    }

    boolean before(int a, int b) {
        if (!isBook(a) || !isBook(b) || a == b || befores.size() == 60) {
            return false;
        }
        for (int[] told : befores) {
            if (told[0] == a && told[1] == b) {
                return false;
            }
        }
        befores.add(new int[] {a, b});
        if (!draw()) {
            befores.remove(befores.size() - 1);
            draw();
            return false;
        }
        return true;
    }

    /** Takes year after year away until each before holds; false if a book has none left. */
    private boolean draw() {
        for (Book book : books) {
            book.first = book.from;
            book.last = book.to;
        }
        boolean changed = true;
        while (changed) {
            changed = false;
            for (int[] told : befores) {
                Book a = books.get(told[0]);
                Book b = books.get(told[1]);
                if (a.last >= b.last) {
                    a.last--;
                    changed = true;
                }
                if (b.first <= a.first) {
                    b.first++;
                    changed = true;
                }
                if (a.first > a.last || b.first > b.last) {
                    return false;
                }
            }
        }
        return true;
    }

    int span(int b, int what) {
        if (!isBook(b)) {
            return NONE;
        }
        Book book = books.get(b);
        if (what == 4) {
            return (int) slips.stream().filter(s -> s.book == b).count();
        }
        int[] answers = {book.first, book.last, book.from, book.to};
        return what >= 0 && what < 4 ? answers[what] : NONE;
    }

    private boolean onTape(int n) {
        return n >= 1 && n <= 8 && n <= tape.size();
    }

    private String letters(int start, int n) {
        StringBuilder text = new StringBuilder();
        for (int i = start; i < start + n; i++) {
            text.append((char) (int) tape.get(i));
        }
        return text.toString();
    }

    private static boolean isWord(String text) {
        return text.matches("[a-z]{1,8}");
    }

    int slip(int book, int n) {
        if (!isBook(book) || slips.size() == 120 || !onTape(n)) {
            return NONE;
        }
        String word = letters(0, n);
        tape.clear();
        if (!isWord(word)) {
            return NONE;
        }
        Slip slip = new Slip();
        slip.book = book;
        slip.word = word;
        slips.add(slip);
        return slips.size() - 1;
    }

    private boolean isEntry(int e) {
        return e >= 0 && e < entries.size();
    }

    int entry(int n, int from, int to) {
        if (!years(from, to) || entries.size() == 12 || !onTape(n)) {
            return NONE;
        }
        List<Form> forms = new ArrayList<>();
        if (!addForm(forms, n, from, to)) {
            return NONE;
        }
        entries.add(forms);
        return entries.size() - 1;
    }

    private boolean addForm(List<Form> forms, int n, int from, int to) {
        Form form = new Form();
        form.word = letters(0, n);
        form.from = from;
        form.to = to;
        tape.clear();
        return isWord(form.word) && forms.add(form);
    }

    int form(int e, int n, int from, int to) {
        if (!isEntry(e) || !years(from, to) || entries.get(e).size() == 5 || !onTape(n)) {
            return NONE;
        }
        return addForm(entries.get(e), n, from, to) ? entries.get(e).size() : NONE;
    }

    int rule(int n, int m) {
        if (n < 1 || n > 2 || m < 1 || m > 2 || rules.size() == 10 || tape.size() < n + m) {
            return NONE;
        }
        String old = letters(0, n);
        String fresh = letters(n, m);
        tape.clear();
        if (!isWord(old) || !isWord(fresh) || old.equals(fresh)) {
            return NONE;
        }
        rules.add(new String[] {old, fresh});
        return rules.size() - 1;
    }

    private Set<String> changed(Set<String> words) {
        Set<String> all = new HashSet<>(words);
        for (String word : words) {
            for (String[] rule : rules) {
                for (int at = word.indexOf(rule[0]); at >= 0; at = word.indexOf(rule[0], at + 1)) {
                    String next = word.substring(0, at) + rule[1] + word.substring(at + rule[0].length());
                    if (next.length() <= 8) {
                        all.add(next);
                    }
                }
            }
        }
        return all;
    }

    int fits(int s, int e) {
        if (!isSlip(s) || !isEntry(e)) {
            return NONE;
        }
        Book book = books.get(slips.get(s).book);
        for (Form form : entries.get(e)) {
            boolean shared = false;
            for (int year = book.first; year <= book.last; year++) {
                shared |= year >= form.from && year <= form.to;
            }
            if (shared && changed(changed(Set.of(form.word))).contains(slips.get(s).word)) {
                return 1;
            }
        }
        return 0;
    }

    private boolean isSlip(int s) {
        return s >= 0 && s < slips.size();
    }

    private List<Integer> fitted(int s) {
        List<Integer> fitted = new ArrayList<>();
        for (int e = 0; e < entries.size(); e++) {
            if (fits(s, e) == 1) {
                fitted.add(e);
            }
        }
        return fitted;
    }

    int sort() {
        int sorted = 0;
        for (int s = 0; s < slips.size(); s++) {
            if (slips.get(s).entry == NONE && fitted(s).size() == 1) {
                slips.get(s).entry = fitted(s).get(0);
                sorted++;
            }
        }
        return sorted;
    }

    private boolean isSense(int t) {
        return t >= 0 && t < 40 && senses[t] != null;
    }

    private boolean isSenseOf(int t, int e) {
        return isSense(t) && senses[t].entry == e;
    }

    int sense(int e, int under) {
        if (!isEntry(e) || under != NONE && !isSenseOf(under, e)) {
            return NONE;
        }
        for (int t = 0; t < 40; t++) {
            if (senses[t] == null) {
                senses[t] = new Sense();
                senses[t].entry = e;
                senses[t].parent = under;
                return t;
            }
        }
        return NONE;
    }

    boolean put(int s, int e, int t) {
        boolean isPlace = e == NONE ? t == NONE : isEntry(e) && (t == NONE || isSenseOf(t, e));
        if (!isSlip(s) || !isPlace || slips.get(s).entry == e && slips.get(s).sense == t) {
            return false;
        }
        slips.get(s).entry = e;
        slips.get(s).sense = t;
        return true;
    }

    private boolean isUnder(int t, int a) {
        return t != NONE && senses[t].parent != NONE && (senses[t].parent == a || isUnder(senses[t].parent, a));
    }

    boolean move(int a, int b) {
        if (!isSense(a) || b != NONE && !isSenseOf(b, senses[a].entry)) {
            return false;
        }
        if (b == a || isUnder(b, a) || senses[a].parent == b) {
            return false;
        }
        senses[a].parent = b;
        return true;
    }

    boolean join(int a, int b) {
        if (!isSense(a) || !isSense(b) || a == b || senses[a].entry != senses[b].entry || isUnder(b, a)) {
            return false;
        }
        for (Slip slip : slips) {
            if (slip.sense == a) {
                slip.sense = b;
            }
        }
        for (Sense sense : senses) {
            if (sense != null && sense.parent == a) {
                sense.parent = b;
            }
        }
        gone(a);
        return true;
    }

    private void gone(int a) {
        senses[a] = null;
        pointers.removeIf(p -> p[0] == a);
        for (int[] pointer : pointers) {
            if (pointer[1] == a) {
                pointer[1] = NONE;
            }
        }
    }

    int part(int a) {
        return isSense(a) ? sense(senses[a].entry, senses[a].parent) : NONE;
    }

    boolean drop(int a) {
        if (!isSense(a) || own(a).size() > 0 || told(a, 10) > 0) {
            return false;
        }
        gone(a);
        return true;
    }

    int point(int a, int b) {
        if (!isSense(a) || !isSense(b) || a == b || pointers.size() == 20) {
            return NONE;
        }
        pointers.add(new int[] {a, b});
        return pointers.size() - 1;
    }

    boolean lead(int p, int b) {
        if (p < 0 || p >= pointers.size() || pointers.get(p)[1] != NONE) {
            return false;
        }
        if (b == NONE) {
            pointers.remove(p);
            return true;
        }
        if (!isSense(b) || pointers.get(p)[0] == b) {
            return false;
        }
        pointers.get(p)[1] = b;
        return true;
    }

    private List<Slip> own(int a) {
        List<Slip> own = new ArrayList<>();
        for (Slip slip : slips) {
            if (slip.sense == a) {
                own.add(slip);
            }
        }
        return own;
    }

    private List<Slip> witnesses(int a) {
        List<Slip> all = own(a);
        for (int t = 0; t < 40; t++) {
            if (isSense(t) && senses[t].parent == a) {
                all.addAll(witnesses(t));
            }
        }
        return all;
    }

    /** FIRST and LAST. */
    private int[] years(List<Slip> of) {
        int[] years = {9999, 9999, 0, 0};
        for (Slip slip : of) {
            Book book = books.get(slip.book);
            years[0] = Math.min(years[0], book.first);
            years[1] = Math.min(years[1], book.last);
            years[2] = Math.max(years[2], book.first);
            years[3] = Math.max(years[3], book.last);
        }
        return years;
    }

    private int gap(List<Slip> of) {
        boolean[] covered = new boolean[2001];
        for (Slip slip : of) {
            for (int year = books.get(slip.book).first; year <= books.get(slip.book).last; year++) {
                covered[year] = true;
            }
        }
        int most = 0;
        int run = 0;
        for (int year = years(of)[0]; year <= years(of)[3]; year++) {
            run = covered[year] ? 0 : run + 1;
            most = Math.max(most, run);
        }
        return most;
    }

    /** The senses of one entry and parent, in THE ORDER. */
    private List<Integer> ordered(int e, int parent) {
        List<Integer> order = new ArrayList<>();
        for (int t = 0; t < 40; t++) {
            if (isSenseOf(t, e) && senses[t].parent == parent) {
                order.add(t);
            }
        }
        order.sort(Comparator.<Integer>comparingInt(t -> witnesses(t).isEmpty() ? 1 : 0)
            .thenComparingInt(t -> years(witnesses(t))[0])
            .thenComparingInt(t -> years(witnesses(t))[1])
            .thenComparingInt(t -> t));
        return order;
    }

    private int depth(int a) {
        return a == NONE ? 0 : 1 + depth(senses[a].parent);
    }

    int told(int a, int what) {
        if (!isSense(a)) {
            return NONE;
        }
        Sense sense = senses[a];
        List<Slip> witnesses = witnesses(a);
        switch (what) {
            case 0: return sense.entry;
            case 1: return sense.parent;
            case 2: return own(a).size();
            case 3: return witnesses.size();
            case 4: case 5: case 6: case 7: return witnesses.isEmpty() ? NONE : years(witnesses)[what - 4];
            case 8: return witnesses.isEmpty() ? NONE : gap(witnesses);
            case 9: return 1 + ordered(sense.entry, sense.parent).indexOf(a);
            case 10: return ordered(sense.entry, a).size();
            case 11: return depth(a);
            default: return NONE;
        }
    }

    private boolean isBefore(int a, int b) {
        for (int[] told : befores) {
            if (told[0] == a && (told[1] == b || isBefore(told[1], b))) {
                return true;
            }
        }
        return false;
    }

    private boolean isOlder(List<Slip> these, List<Slip> those) {
        if (years(these)[1] < years(those)[0]) {
            return true;
        }
        for (Slip slip : these) {
            if (those.stream().allMatch(other -> isBefore(slip.book, other.book))) {
                return true;
            }
        }
        return false;
    }

    int older(int a, int b) {
        if (!isSense(a) || !isSense(b) || witnesses(a).isEmpty() || witnesses(b).isEmpty()) {
            return NONE;
        }
        if (isOlder(witnesses(a), witnesses(b))) {
            return 1;
        }
        return isOlder(witnesses(b), witnesses(a)) ? 2 : 0;
    }

    private List<Integer> flaws() {
        List<Integer> flaws = new ArrayList<>();
        for (int t = 0; t < 40; t++) {
            for (int a = 0; a < 40; a++) {
                if (isSense(t) && isSense(a) && isUnder(t, a) && !own(t).isEmpty() && !own(a).isEmpty()
                        && isOlder(own(t), own(a))) {
                    flaws.add(64 * t + a);
                }
            }
        }
        return flaws;
    }

    int flaw(int i) {
        List<Integer> flaws = flaws();
        return i >= 0 && i < flaws.size() ? flaws.get(i) : NONE;
    }

    private boolean isDoubt(int s) {
        return slips.get(s).entry == NONE && fitted(s).size() > 1;
    }

    int where(int s, int what) {
        if (!isSlip(s)) {
            return NONE;
        }
        Slip slip = slips.get(s);
        switch (what) {
            case 0: return slip.entry;
            case 1: return slip.sense;
            case 2: return isDoubt(s) ? 1 : 0;
            case 3: return slip.book;
            case 4: return slip.word.length();
            default: return what >= 10 && what < 10 + slip.word.length() ? slip.word.charAt(what - 10) : NONE;
        }
    }

    private int loosePointers() {
        return (int) pointers.stream().filter(p -> p[1] == NONE).count();
    }

    int edition() {
        if (loosePointers() > 0 || editions.size() == 8) {
            return NONE;
        }
        List<int[]> edition = new ArrayList<>();
        for (Slip slip : slips) {
            edition.add(new int[] {slip.entry, slip.sense});
        }
        editions.add(edition);
        return editions.size() - 1;
    }

    private boolean isEdition(int e) {
        return e >= 0 && e < editions.size();
    }

    int as(int e, int s, int what) {
        if (!isEdition(e) || !isSlip(s) || what < 0 || what > 1) {
            return NONE;
        }
        return s < editions.get(e).size() ? editions.get(e).get(s)[what] : -2;
    }

    int differ(int a, int b, int i) {
        if (!isEdition(a) || !isEdition(b)) {
            return NONE;
        }
        List<Integer> others = new ArrayList<>();
        for (int s = 0; s < slips.size(); s++) {
            if (as(a, s, 0) != as(b, s, 0) || as(a, s, 1) != as(b, s, 1)) {
                others.add(s);
            }
        }
        if (i == NONE) {
            return others.size();
        }
        return i >= 0 && i < others.size() ? others.get(i) : NONE;
    }

    private String head(int e) {
        return entries.get(e).get(0).word;
    }

    private String mark(int t) {
        String above = senses[t].parent == NONE ? "" : mark(senses[t].parent) + ".";
        return above + told(t, 9);
    }

    private String printUnder(int e, int parent) {
        StringBuilder text = new StringBuilder();
        for (int t : ordered(e, parent)) {
            text.append(' ').append(mark(t));
            List<Slip> witnesses = witnesses(t);
            if (witnesses.isEmpty()) {
                text.append("(0)");
            } else {
                int[] years = years(witnesses);
                String span = years[0] == years[1] ? "" + years[0] : years[0] + "-" + years[1];
                text.append("(" + span + "," + witnesses.size() + ")");
            }
            for (int[] pointer : pointers) {
                if (pointer[0] == t && pointer[1] != NONE) {
                    text.append(">" + head(senses[pointer[1]].entry) + " " + mark(pointer[1]));
                }
            }
            text.append(printUnder(e, t));
        }
        return text.toString();
    }

    private int heap(int e) {
        return (int) slips.stream().filter(s -> s.entry == e && s.sense == NONE).count();
    }

    int print(int e) {
        if (!isEntry(e)) {
            return NONE;
        }
        print = head(e) + ":" + printUnder(e, NONE) + (heap(e) > 0 ? " +" + heap(e) : "");
        return print.length();
    }

    int octet(int i) {
        return i >= 0 && i < print.length() ? print.charAt(i) : NONE;
    }

    int count(int what) {
        switch (what) {
            case 0: return books.size();
            case 1: return slips.size();
            case 2: return entries.size();
            case 3: return rules.size();
            case 4: return (int) java.util.Arrays.stream(senses).filter(s -> s != null).count();
            case 5: return pointers.size();
            case 6: return loosePointers();
            case 7: return (int) slips.stream().filter(s -> s.entry == NONE).count();
            case 8: return doubts();
            case 9: return editions.size();
            case 10: return befores.size();
            case 11: return flaws().size();
            case 12: return tape.size();
            default: return isEntry(what - 20) ? heap(what - 20) : NONE;
        }
    }

    private int doubts() {
        int doubts = 0;
        for (int s = 0; s < slips.size(); s++) {
            if (isDoubt(s)) {
                doubts++;
            }
        }
        return doubts;
    }
}
