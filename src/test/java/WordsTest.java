/** Promises 1 to 8: a new object, the PAD, WORDS and VERSIONS, what a text comes to. */
public final class WordsTest {
    private static final Due due = new Due();
    private static final int[] FAR = {Integer.MIN_VALUE, -2, Integer.MAX_VALUE};
    private static final String FORTY = "?" + ("?" + "?123".repeat(3)).repeat(3);

    public static void main(String[] args) {
        newObject();
        say();
        wipe();
        fault();
        version();
        word();
        written();
        comesByOneSign();
        comesByWords();
        comesToGoneOrEndless();
        comesRefused();
        due.end();
    }

    private static void newObject() {
        BookShows x = new BookShows();
        for (int what = 0; what < 4; what++) {
            due.is("1 told(" + what + ")", x.told(what), what == 1 ? 1 : 0);
        }
        for (int word = 0; word < 8; word++) {
            due.is("1 written(0, " + word + ", -1)", x.written(0, word, -1), 0);
            due.is("1 word " + word + " given 1", Due.comes(x, (char) ('a' + word) + "1", 0, 0), -10);
        }
        due.is("1 written(1, 0, -1)", x.written(1, 0, -1), BookShows.UNKNOWN);
        due.is("1 page(0, 0)", x.page(0, 0), BookShows.UNKNOWN);
        due.is("1 slip(0, -1)", x.slip(0, -1), 0);
        due.is("1 order(-1)", x.order(-1), 0);
        due.is("1 order(-2)", x.order(-2), 0);
        due.is("1 cover(0)", x.cover(0), 0);
        due.is("1 apart()", x.apart(), 0);
        due.is("1 notice(0)", x.notice(0), 0);
        due.is("1 unshown(0, -1)", x.unshown(0, -1), 0);
        due.is("1 restore(0)", x.restore(0), BookShows.STATE);
        due.is("1 restore(1)", x.restore(1), BookShows.STATE);
    }

    private static void say() {
        BookShows x = new BookShows();
        due.is("2 say(33)", x.say(33), 1);
        due.is("2 say(126)", x.say(126), 2);
        for (int sign : new int[] {32, 127, 0, -1, 33 + 256, 65536 + 48, Integer.MIN_VALUE, Integer.MAX_VALUE}) {
            due.refused("2 say(" + sign + ")", x, () -> x.say(sign), BookShows.OUTSIDE);
        }
        for (int count = 3; count <= 40; count++) {
            due.is("2 say(49) for sign " + count, x.say(49), count);
        }
        due.refused("2 the 41st sign", x, () -> x.say(49), BookShows.FULL);
        due.refused("2 the 41st sign, outside", x, () -> x.say(32), BookShows.OUTSIDE);
        due.is("2 told(0)", x.told(0), 40);
    }

    private static void wipe() {
        BookShows x = new BookShows();
        due.is("3 wipe() of none", x.wipe(), 0);
        Due.say(x, "+12");
        due.is("3 wipe() of three", x.wipe(), 3);
        due.is("3 told(0)", x.told(0), 0);
        due.is("3 wipe() again", x.wipe(), 0);
        due.is("3 say behind it", x.say('7'), 1);
        due.is("3 comes behind it", x.comes(0, 0), 7);
    }

    private static void fault() {
        BookShows x = new BookShows();
        String[] whole = {"0", "9", "x", "a1", "hx", "+12", "-x1", "*xx", "m12", "?012", "?+00a1*2x",
            "aaaaaa1", "++++++1111111", "??????1111111111111", "+1+1+1+1+1+12"};
        for (String text : whole) {
            due.is("4 fault of " + text, Due.fault(x, text), BookShows.NONE);
        }
        due.is("4 no signs", Due.fault(x, ""), 0);
        String[] unfinished = {"a", "+", "+1", "?", "?1", "?12", "aaaaaa", "++++++111111", "+a1"};
        for (String text : unfinished) {
            due.is("4 more must come: " + text, Due.fault(x, text), text.length());
        }
        due.is("4 one too many", Due.fault(x, "12"), 1);
        due.is("4 two too many", Due.fault(x, "+12!3"), 3);
        due.is("4 a capital letter", Due.fault(x, "+A1"), 1);
        due.is("4 i is no WORD", Due.fault(x, "i1"), 0);
        due.is("4 `", Due.fault(x, "+1`"), 2);
        due.is("4 /", Due.fault(x, "/12"), 0);
        due.is("4 :", Due.fault(x, "+:"), 1);
        due.is("4 a WORD within 6 others", Due.fault(x, "aaaaaaa1"), 6);
        due.is("4 + within 6 others", Due.fault(x, "aaaaaa+11"), 6);
        due.is("4 ? within 6 others", Due.fault(x, "+1+1+1+1+1+1?111"), 12);
        due.is("4 the first of two faults", Due.fault(x, "+!!"), 1);
        due.is("4 forty signs", Due.fault(x, FORTY), BookShows.NONE);
        due.is("4 it changes nothing", x.told(0), 40);
    }

    private static void version() {
        BookShows x = new BookShows();
        Due.word(x, 0, "+x1");
        Due.say(x, "x");
        due.is("5 version() 1", x.version(), 1);
        due.is("5 the PAD stays", x.told(0), 1);
        due.is("5 it begins as the last one is", Due.written(x, 1, 0).equals("+x1") ? 1 : 0, 1);
        Due.word(x, 0, "+x2");
        Due.word(x, 7, "3");
        due.is("5 the one ahead stays", Due.written(x, 0, 0).equals("+x1") ? 1 : 0, 1);
        due.is("5 the one ahead stays GONE", x.written(0, 7, -1), 0);
        for (int number = 2; number < 6; number++) {
            due.is("5 version() " + number, x.version(), number);
        }
        due.is("5 as the last one", Due.written(x, 5, 0).equals("+x2") && Due.written(x, 5, 7).equals("3") ? 1 : 0, 1);
        due.refused("5 version() 6", x, x::version, BookShows.FULL);
        due.is("5 told(1)", x.told(1), 6);
    }

    private static void word() {
        BookShows x = new BookShows();
        due.is("6 word(3)", Due.word(x, 3, "?x1*xd-x1"), 9);
        due.is("6 the PAD is empty", x.told(0), 0);
        due.is("6 what it is", Due.written(x, 0, 3).equals("?x1*xd-x1") ? 1 : 0, 1);
        for (int word : new int[] {-1, 8, Integer.MIN_VALUE, Integer.MAX_VALUE}) {
            due.refused("6 word(" + word + ")", x, () -> x.word(word), BookShows.UNKNOWN);
        }
        Due.say(x, "+1");
        due.refused("6 with a FAULT", x, () -> x.word(3), BookShows.NO);
        x.wipe();
        x.say('+');
        due.refused("6 one sign with a FAULT", x, () -> x.word(3), BookShows.NO);
        due.refused("6 UNKNOWN ahead of NO", x, () -> x.word(8), BookShows.UNKNOWN);
        x.wipe();
        due.is("6 no signs", x.word(3), 0);
        due.is("6 it is GONE", x.written(0, 3, -1), 0);
        due.is("6 it is GONE when given", Due.comes(x, "d1", 0, 0), -10);
        Due.word(x, 0, "1");
        x.version();
        x.wipe();
        due.is("6 GONE in the last VERSION", x.word(0), 0);
        due.is("6 alone there", x.written(0, 0, -1), 1);
        due.is("6 and there it is", x.written(1, 0, -1), 0);
        due.is("6 forty signs", Due.word(x, 1, FORTY), 40);
        due.is("6 all forty", Due.written(x, 1, 1).equals(FORTY) ? 1 : 0, 1);
    }

    private static void written() {
        BookShows x = new BookShows();
        Due.word(x, 2, "-9x");
        due.is("7 how many", x.written(0, 2, -1), 3);
        due.is("7 the first", x.written(0, 2, 0), '-');
        due.is("7 the second", x.written(0, 2, 1), '9');
        due.is("7 the third", x.written(0, 2, 2), 'x');
        due.is("7 behind", x.written(0, 2, 3), BookShows.NONE);
        for (int i : FAR) {
            due.is("7 i = " + i, x.written(0, 2, i), BookShows.NONE);
        }
        due.is("7 of a GONE one", x.written(0, 3, 0), BookShows.NONE);
        for (int no : new int[] {-1, 1, 6, Integer.MIN_VALUE, Integer.MAX_VALUE}) {
            due.is("7 version " + no, x.written(no, 2, 0), BookShows.UNKNOWN);
        }
        for (int no : new int[] {-1, 8, Integer.MIN_VALUE, Integer.MAX_VALUE}) {
            due.is("7 word " + no, x.written(0, no, -1), BookShows.UNKNOWN);
        }
    }

    private static void comesByOneSign() {
        BookShows x = new BookShows();
        due.is("8 x", Due.comes(x, "x", 0, 999), 999);
        due.is("8 7", Due.comes(x, "7", 0, 999), 7);
        due.is("8 sum", Due.comes(x, "+x3", 0, 4), 7);
        due.is("8 sum, left over", Due.comes(x, "+x3", 0, 998), 1);
        due.is("8 less", Due.comes(x, "-x3", 0, 4), 1);
        due.is("8 less, left over", Due.comes(x, "-x3", 0, 1), 998);
        due.is("8 product", Due.comes(x, "*xx", 0, 12), 144);
        due.is("8 product, left over", Due.comes(x, "*xx", 0, 999), 1);
        due.is("8 the lesser one", Due.comes(x, "mx3", 0, 4), 3);
        due.is("8 the lesser one, first", Due.comes(x, "mx3", 0, 2), 2);
        due.is("8 ? with 0", Due.comes(x, "?x12", 0, 0), 1);
        due.is("8 ? with 1", Due.comes(x, "?x12", 0, 1), 2);
        due.is("8 behind ? with 0", Due.comes(x, "+?x12x", 0, 0), 1);
        due.is("8 behind ? with 5", Due.comes(x, "+?x12x", 0, 5), 7);
        due.is("8 ? in ?, the third", Due.comes(x, "-??x10?x34?x56x", 0, 0), 5);
        due.is("8 ? in ?, the second", Due.comes(x, "-??x10?x34?x56x", 0, 8), 996);
        due.is("8 ? in ? at the end", Due.comes(x, "?x?x12+?x34?x56", 0, 8), 10);
        due.is("8 the PAD stays", x.told(0), 15);
    }

    private static void comesByWords() {
        BookShows x = new BookShows();
        Due.word(x, 0, "+x3");
        Due.word(x, 1, "*axax");
        due.is("8 a WORD", Due.comes(x, "ax", 0, 4), 7);
        due.is("8 a WORD of WORDS", Due.comes(x, "b1", 0, 4), 16);
        due.is("8 x is the text's own again", Due.comes(x, "+a1x", 0, 4), 8);
        Due.word(x, 2, "aaaaaax");
        due.is("8 a WORD whose text lies 6 deep", Due.comes(x, "aaaaac1", 0, 0), 34);
        due.is("8 a WORD given a WORD's", Due.comes(x, "aa-bx1", 0, 2), 30);
        x.version();
        Due.word(x, 0, "-x3");
        due.is("8 in VERSION 0", Due.comes(x, "b1", 0, 4), 16);
        due.is("8 in VERSION 1", Due.comes(x, "b1", 1, 4), 4);
    }

    private static void comesToGoneOrEndless() {
        BookShows x = new BookShows();
        due.is("8 the other one is not looked at", Due.comes(x, "?05a1", 0, 0), 5);
        due.is("8 nor this one", Due.comes(x, "?1a15", 0, 0), 5);
        due.is("8 GONE ends all", Due.comes(x, "*0a1", 0, 0), -10);
        Due.word(x, 2, "?xg0c-x1");
        due.is("8 GONE ahead of ENDLESS", Due.comes(x, "cx", 0, 19), -10);
        due.is("8 ENDLESS first", Due.comes(x, "cx", 0, 20), -11);
        due.is("8 ENDLESS from the left", Due.comes(x, "+cxg1", 0, 20), -11);
        due.is("8 GONE from the left", Due.comes(x, "+g1cx", 0, 20), -10);
        due.is("8 what is given is reckoned ahead", Due.comes(x, "gcx", 0, 20), -11);
        Due.word(x, 6, "x");
        due.is("8 20 are not through yet", Due.comes(x, "cx", 0, 19), -11);
        due.is("8 19 are not through yet", Due.comes(x, "cx", 0, 18), 0);
        due.is("8 those through do not count", Due.comes(x, "cccccx", 0, 18), 0);
        Due.word(x, 0, "+x1");
        for (int word = 1; word < 8; word++) {
            char ahead = (char) ('a' + word - 1);
            Due.word(x, word, "+" + ahead + "x" + ahead + "x");
        }
        due.is("8 300 WORDS", Due.comes(x, "+h1+e1+c1c1", 0, 0), 304);
        due.is("8 301 WORDS", Due.comes(x, "+h1+e1d1", 0, 0), -11);
        due.is("8 the 301st at the end", Due.comes(x, "a+h1+e1+c1c1", 0, 0), -11);
        due.is("8 counted anew in each call", Due.comes(x, "+h1+e1+c1c1", 0, 0), 304);
    }

    private static void comesRefused() {
        BookShows x = new BookShows();
        Due.say(x, "+x");
        for (int no : new int[] {-1, 1, Integer.MIN_VALUE, Integer.MAX_VALUE}) {
            due.refused("8 version " + no, x, () -> x.comes(no, 1000), BookShows.UNKNOWN);
        }
        for (int no : new int[] {-1, 1000, Integer.MIN_VALUE, Integer.MAX_VALUE}) {
            due.refused("8 given " + no, x, () -> x.comes(0, no), BookShows.OUTSIDE);
        }
        due.refused("8 with a FAULT", x, () -> x.comes(0, 0), BookShows.NO);
        x.wipe();
        due.refused("8 without signs", x, () -> x.comes(0, 0), BookShows.NO);
    }
}
