/** Promises 6 to 11: slips, entries, forms, rules, what fits, and sorting. */
final class WordTests {
    private static final int NONE = SlipHouse.NONE;

    private WordTests() {
    }

    static void run() {
        slips();
        entries();
        forms();
        rules();
        fitsByYears();
        fitsByRules();
        twoChangesAtMost();
        noWordIsLonger();
        changesAnywhere();
        rulesToldLate();
        sort();
        sortAgain();
    }

    /** A house with a book of the years 1500 to 1510 and an entry of them. */
    private static SlipHouse small(String head) {
        SlipHouse house = new SlipHouse();
        house.book(1500, 1510);
        Houses.entry(house, head, 1500, 1510);
        return house;
    }

    private static void slips() {
        SlipHouse house = new SlipHouse();
        house.book(1, 2);
        Check.due("slip a", Houses.slip(house, 0, "a"), 0);
        Check.due("slip abcdefgh", Houses.slip(house, 0, "abcdefgh"), 1);
        Check.due("the tape is empty", house.count(12), 0);
        Check.due("slips", house.count(1), 2);
        Check.due("loose slips", house.count(7), 2);
        Check.due("its entry", house.where(0, 0), NONE);
        Check.due("its sense", house.where(0, 1), NONE);
        Houses.feed(house, "q");
        Houses.feed(house, "r");
        house.slip(0, 1);
        Check.due("of 40 bytes none is left", house.count(12), 0);
    }

    private static void entries() {
        SlipHouse house = new SlipHouse();
        for (int e = 0; e < 12; e++) {
            Check.due("entry " + e, Houses.entry(house, "cat", 1, 2000), e);
        }
        Check.due("entry 12", Houses.entry(house, "cat", 1, 2000), NONE);
        Check.due("the tape stays", house.count(12), 20);
        Check.due("entries", house.count(2), 12);
        Check.due("an empty tape", new SlipHouse().entry(1, 1, 2), NONE);
    }

    private static void forms() {
        SlipHouse house = small("a");
        for (int f = 2; f <= 5; f++) {
            Check.due("form " + f, Houses.form(house, 0, "b", 1, 2), f);
        }
        Check.due("form 6", Houses.form(house, 0, "b", 1, 2), NONE);
        Check.due("the tape stays", house.count(12), 20);
        Check.due("the head stays", Houses.printed(house, 0), "a:");
        Check.due("form of an empty tape", small("a").form(0, 1, 1, 2), NONE);
    }

    private static void rules() {
        SlipHouse house = new SlipHouse();
        for (int r = 0; r < 10; r++) {
            Check.due("rule " + r, Houses.rule(house, "ab", "c"), r);
        }
        Check.due("rule 10", Houses.rule(house, "ab", "c"), NONE);
        Check.due("the tape stays", house.count(12), 20);
        Check.due("rules", house.count(3), 10);
        SlipHouse other = new SlipHouse();
        Check.due("an empty tape", other.rule(1, 1), NONE);
        Check.due("ab for ab", Houses.rule(other, "ab", "ab"), NONE);
        Check.due("the tape is empty", other.count(12), 0);
        Check.due("ba for ab", Houses.rule(other, "ab", "ba"), 0);
        Check.due("a for aa", Houses.rule(other, "aa", "a"), 1);
        Check.due("the tape is empty", other.count(12), 0);
    }

    private static void fitsByYears() {
        SlipHouse house = new SlipHouse();
        house.book(1500, 1510);
        house.book(1480, 1510);
        Houses.entry(house, "cat", 1400, 1499);
        Houses.entry(house, "cat", 1400, 1500);
        Houses.entry(house, "cat", 1511, 1600);
        Houses.entry(house, "cat", 1510, 1600);
        Houses.entry(house, "dog", 1, 2000);
        Houses.form(house, 4, "cow", 1, 2000);
        Houses.form(house, 4, "cat", 1505, 1506);
        Houses.slip(house, 0, "cat");
        Houses.slip(house, 1, "cat");
        int[] due = {0, 1, 0, 1, 1};
        for (int e = 0; e < 5; e++) {
            Check.due("book 1500 to 1510 fits " + e, house.fits(0, e), due[e]);
        }
        Check.due("book 1480 to 1510 has 1499", house.fits(1, 0), 1);
        house.book(1499, 1499);
        Check.due("before", house.before(2, 1), true);
        Check.due("drawn to 1500 it has no longer", house.fits(1, 0), 0);
    }

    private static void fitsByRules() {
        SlipHouse house = small("fish");
        Houses.rule(house, "i", "y");
        Houses.rule(house, "sh", "ss");
        String[] words = {"fish", "fysh", "fiss", "fyss", "fisch", "fush", "fis"};
        int[] due = {1, 1, 1, 1, 0, 0, 0};
        for (int i = 0; i < words.length; i++) {
            Houses.slip(house, 0, words[i]);
            Check.due(words[i] + " fits fish", house.fits(i, 0), due[i]);
        }
        SlipHouse other = small("fysh");
        Houses.rule(other, "i", "y");
        Houses.slip(other, 0, "fish");
        Check.due("rules do not lead back", other.fits(0, 0), 0);
    }

    private static void twoChangesAtMost() {
        SlipHouse house = small("aaa");
        Houses.rule(house, "a", "b");
        Houses.rule(house, "bb", "c");
        Houses.rule(house, "b", "d");
        String[] words = {"aba", "bba", "bbb", "ca", "ad", "ada", "dda", "adb"};
        int[] due = {1, 1, 0, 0, 0, 1, 0, 0};
        for (int i = 0; i < words.length; i++) {
            Houses.slip(house, 0, words[i]);
            Check.due(words[i] + " fits aaa", house.fits(i, 0), due[i]);
        }
        SlipHouse chain = small("ab");
        Houses.rule(chain, "a", "b");
        Houses.rule(chain, "bb", "c");
        Houses.rule(chain, "c", "dd");
        Houses.slip(chain, 0, "c");
        Houses.slip(chain, 0, "dd");
        Check.due("the second change takes what the first one brought", chain.fits(0, 0), 1);
        Check.due("three changes", chain.fits(1, 0), 0);
    }

    private static void noWordIsLonger() {
        SlipHouse house = small("abcdefgh");
        Houses.rule(house, "a", "xy");
        Houses.rule(house, "gh", "z");
        Houses.slip(house, 0, "xybcdefz");
        Check.due("shorter first, longer then", house.fits(0, 0), 1);
        SlipHouse other = small("abcdefgh");
        Houses.rule(other, "a", "xy");
        Houses.rule(other, "yb", "z");
        Houses.slip(other, 0, "xzcdefgh");
        Check.due("nine letters between are no word", other.fits(0, 0), 0);
        SlipHouse least = small("ab");
        Houses.rule(least, "ab", "c");
        Houses.slip(least, 0, "c");
        Check.due("a word of one letter", least.fits(0, 0), 1);
    }

    private static void changesAnywhere() {
        SlipHouse house = small("aaaaaaaa");
        Houses.rule(house, "a", "z");
        String[] words = {"zaaaaaaa", "aaaazaaa", "aaaaaaaz", "zaaaaaaz", "zaazaaza", "aaaaaaa"};
        int[] due = {1, 1, 1, 1, 0, 0};
        for (int i = 0; i < words.length; i++) {
            Houses.slip(house, 0, words[i]);
            Check.due(words[i] + " fits aaaaaaaa", house.fits(i, 0), due[i]);
        }
    }

    private static void rulesToldLate() {
        SlipHouse house = small("ab");
        Houses.slip(house, 0, "cd");
        Check.due("without rules", house.fits(0, 0), 0);
        Houses.rule(house, "a", "c");
        Check.due("with one", house.fits(0, 0), 0);
        Houses.rule(house, "b", "d");
        Check.due("with both", house.fits(0, 0), 1);
        Houses.entry(house, "ad", 1500, 1510);
        Houses.slip(house, 0, "ab");
        Check.due("an entry told later", house.fits(0, 1), 1);
        Check.due("a slip told later", house.fits(1, 0), 1);
        Check.due("d does not lead to b", house.fits(1, 1), 0);
    }

    private static void sort() {
        SlipHouse house = small("cat");
        Houses.entry(house, "kat", 1500, 1510);
        Houses.rule(house, "c", "k");
        Houses.slip(house, 0, "cat");
        Houses.slip(house, 0, "kat");
        Houses.slip(house, 0, "dog");
        Check.due("cat is in no doubt", house.where(0, 2), 0);
        Check.due("kat is in doubt", house.where(1, 2), 1);
        Check.due("dog is in no doubt", house.where(2, 2), 0);
        Check.due("slips in doubt", house.count(8), 1);
        Check.due("sort", house.sort(), 1);
        Check.due("cat's entry", house.where(0, 0), 0);
        Check.due("cat's sense", house.where(0, 1), NONE);
        Check.due("kat is loose", house.where(1, 0), NONE);
        Check.due("dog is loose", house.where(2, 0), NONE);
        Check.due("loose slips", house.count(7), 2);
        Check.due("heap of entry 0", house.count(20), 1);
        Check.due("sort again", house.sort(), 0);
        house.put(1, 0, NONE);
        Check.due("told an entry, it is in no doubt", house.where(1, 2), 0);
        Check.due("slips in doubt then", house.count(8), 0);
    }

    private static void sortAgain() {
        SlipHouse house = small("cat");
        Houses.entry(house, "dog", 1500, 1510);
        int t = house.sense(1, NONE);
        Houses.slip(house, 0, "cat");
        Houses.slip(house, 0, "cat");
        house.put(0, 1, NONE);
        house.put(1, 1, t);
        Check.due("only loose slips are sorted", house.sort(), 0);
        house.put(0, NONE, NONE);
        house.put(1, NONE, NONE);
        Check.due("loose again, they are", house.sort(), 2);
        Check.due("heap of entry 0", house.count(20), 2);
    }
}
