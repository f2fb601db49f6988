/** Holds the class against the model, call by call, over runs of 512 calls that are always the same ones. */
final class ModelTests {
    private static final int RUNS = 400;
    private static final int CALLS = 512;
    private static final int NONE = SlipHouse.NONE;
    private static final int[] FAR = {Integer.MIN_VALUE, Integer.MAX_VALUE, Integer.MIN_VALUE + 9, -2, 40, 120, 4096};

    private final int run;
    private final SlipHouse house = new SlipHouse();
    private final Model model = new Model();
    private final StringBuilder letters = new StringBuilder();
    private final int span;
    private final int alphabet;
    private final int way;
    private long state;
    private int calls;

    private ModelTests(int run) {
        this.run = run;
        state = run * 7919L + 17;
        span = run % 3 == 0 ? 1900 : run % 3 == 1 ? 60 : 12;
        alphabet = 2 + run % 4;
        way = run % 5;
    }

    static void run() {
        for (int run = 0; run < RUNS; run++) {
            new ModelTests(run).go();
        }
    }

    /** A number from 0 to bound - 1. */
    private int any(int bound) {
        state = state * 6364136223846793005L + 1442695040888963407L;
        return (int) ((state >>> 33) % bound);
    }

    /** Mostly a number below the bound, now and then one that is out of it, near or far. */
    private int near(int bound) {
        int pick = any(50);
        if (pick == 0) {
            return NONE;
        }
        if (pick == 1) {
            return bound + any(3);
        }
        if (pick == 2) {
            return FAR[any(FAR.length)];
        }
        return any(Math.max(1, bound));
    }

    private int nearOrNone(int bound) {
        return any(3) == 0 ? NONE : near(bound);
    }

    private void go() {
        while (calls < CALLS - 60) {
            if (calls < 200 && any(way == 4 ? 2 : 4) != 0) {
                grow();
            } else if (any(3) != 0) {
                ask();
            } else {
                change();
            }
        }
        readPrint(any(Math.max(1, model.count(2))));
    }

    private void due(String call, long got, long want) {
        calls++;
        Check.due("run " + run + ", call " + calls + ": " + call, got, want);
    }

    private void due(String call, boolean got, boolean want) {
        due(call, got ? 1 : 0, want ? 1 : 0);
    }

    private void word(int length) {
        letters.setLength(0);
        for (int i = 0; i < length; i++) {
            letters.append((char) ('a' + any(alphabet)));
        }
        if (any(30) == 0) {
            letters.setCharAt(any(length), "AZ`{\u0000 \u00e1".charAt(any(7)));
        }
        feed();
    }

    private void feed() {
        int[] fours = new int[5];
        for (int i = 0; i < letters.length(); i++) {
            fours[i / 4] |= letters.charAt(i) << (24 - 8 * (i % 4));
        }
        due("feed " + letters, house.feed(fours[0], fours[1], fours[2], fours[3], fours[4]), model.feed(fours));
    }

    private void grow() {
        if (way < 3 && model.count(2) > 1) {
            growDense();
            return;
        }
        switch (any(way == 4 ? 9 : 7)) {
            case 0: book(); break;
            case 1: entry(); break;
            case 2: sense(); break;
            case 3: form(); break;
            case 4: rule(); break;
            case 5: before(); break;
            case 6: slip(); break;
            case 7: sense(); break;
            default: point(); break;
        }
    }

    /** Few entries with many senses and slips in them. */
    private void growDense() {
        switch (any(7)) {
            case 0: book(); break;
            case 1: case 2: sense(); break;
            case 3: case 4: slip(); break;
            case 5: if (way == 2) before(); else book(); break;
            default: put(); break;
        }
    }

    private void book() {
        int from = 40 + any(span);
        int to = from + any(30) - 2;
        due("book " + from + ", " + to, house.book(from, to), model.book(from, to));
    }

    private void before() {
        int a = near(model.count(0));
        int b = near(model.count(0));
        due("before " + a + ", " + b, house.before(a, b), model.before(a, b));
    }

    private void slip() {
        int length = 1 + any(any(2) == 0 ? 3 : 8);
        word(length);
        int book = near(model.count(0));
        int n = lengthOr(length);
        due("slip " + book + ", " + n, house.slip(book, n), model.slip(book, n));
    }

    private void entry() {
        int length = 1 + any(any(2) == 0 ? 3 : 8);
        word(length);
        int from = 40 + any(span);
        int to = from + any(span) - 1;
        int n = lengthOr(length);
        due("entry " + n + ", " + from + ", " + to, house.entry(n, from, to), model.entry(n, from, to));
    }

    private void form() {
        int length = 1 + any(8);
        word(length);
        int e = near(model.count(2));
        int from = any(span);
        int to = from + any(span);
        int n = lengthOr(length);
        due("form " + e + ", " + n, house.form(e, n, from, to), model.form(e, n, from, to));
    }

    private void rule() {
        int n = lengthOr(1 + any(2));
        int m = lengthOr(1 + any(2));
        word(4);
        due("rule " + n + ", " + m, house.rule(n, m), model.rule(n, m));
    }

    private int lengthOr(int length) {
        return any(20) == 0 ? near(10) : length;
    }

    private void sense() {
        int e = near(model.count(2));
        int under = nearOrNone(model.count(4));
        due("sense " + e + ", " + under, house.sense(e, under), model.sense(e, under));
    }

    private void point() {
        int a = near(model.count(4) + 1);
        int b = near(model.count(4) + 1);
        due("point " + a + ", " + b, house.point(a, b), model.point(a, b));
    }

    private void put() {
        int s = near(model.count(1));
        int t = nearOrNone(model.count(4) + 1);
        int e = any(10) == 0 ? nearOrNone(model.count(2)) : t == NONE ? near(model.count(2)) : model.told(t, 0);
        due("put " + s + ", " + e + ", " + t, house.put(s, e, t), model.put(s, e, t));
    }

    private void change() {
        int senses = model.count(4) + 1;
        int a = near(senses);
        int b = near(senses);
        switch (any(13)) {
            case 0: due("sort", house.sort(), model.sort()); break;
            case 1: move(a, nearOrNone(senses)); break;
            case 2: if (any(2) == 0) due("join " + a + ", " + b, house.join(a, b), model.join(a, b)); break;
            case 3: due("part " + a, house.part(a), model.part(a)); break;
            case 4: due("drop " + a, house.drop(a), model.drop(a)); break;
            case 5: point(); break;
            case 6: lead(); break;
            case 7: due("edition", house.edition(), model.edition()); break;
            case 8: before(); break;
            case 9: slip(); break;
            default: put(); break;
        }
    }

    private void move(int a, int b) {
        due("move " + a + ", " + b, house.move(a, b), model.move(a, b));
    }

    private void lead() {
        int p = near(model.count(5));
        for (int q = 0; q < model.pointers.size() && any(4) != 0; q++) {
            p = model.pointers.get(q)[1] == NONE ? q : p;
        }
        int b = nearOrNone(model.count(4) + 1);
        due("lead " + p + ", " + b, house.lead(p, b), model.lead(p, b));
    }

    private void ask() {
        int s = near(model.count(1));
        int t = near(model.count(4) + 1);
        int b = near(model.count(0));
        int e = near(model.count(2));
        int i = near(8) - 1;
        switch (any(11)) {
            case 0: askSpan(b, near(5)); break;
            case 1: due("fits " + s + ", " + e, house.fits(s, e), model.fits(s, e)); break;
            case 2: case 3: case 4: askTold(t, near(12)); break;
            case 5: askOlder(t, near(model.count(4) + 1)); break;
            case 6: due("flaw " + i, house.flaw(i), model.flaw(i)); break;
            case 7: askWhere(s, near(20)); break;
            case 8: askEditions(s, i); break;
            case 9: readSome(e); break;
            default: askCount(any(4) == 0 ? 20 + near(12) : near(13)); break;
        }
    }

    private void askSpan(int b, int what) {
        due("span " + b + ", " + what, house.span(b, what), model.span(b, what));
    }

    private void askTold(int t, int what) {
        due("told " + t + ", " + what, house.told(t, what), model.told(t, what));
    }

    private void askOlder(int a, int b) {
        due("older " + a + ", " + b, house.older(a, b), model.older(a, b));
    }

    private void askWhere(int s, int what) {
        due("where " + s + ", " + what, house.where(s, what), model.where(s, what));
    }

    private void askCount(int what) {
        due("count " + what, house.count(what), model.count(what));
    }

    private void askEditions(int s, int i) {
        int a = near(model.count(9));
        int b = near(model.count(9));
        int what = near(2);
        due("as " + a + ", " + s + ", " + what, house.as(a, s, what), model.as(a, s, what));
        due("differ " + a + ", " + b + ", " + i, house.differ(a, b, i), model.differ(a, b, i));
    }

    private void readSome(int e) {
        due("print " + e, house.print(e), model.print(e));
        int i = near(model.print.length());
        due("octet " + i, house.octet(i), model.octet(i));
    }

    private void readPrint(int e) {
        due("print " + e, house.print(e), model.print(e));
        for (int i = 0; i < model.print.length() + 1 && calls < CALLS; i++) {
            due("octet " + i, house.octet(i), model.octet(i));
        }
    }
}
