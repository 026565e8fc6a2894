/** Promises 15 to 21: ORDER, COVER, APART, SLIPS, NOTICED, UNSHOWN, NOTICE. */
public final class LeastSetsTest {
    private static final Due due = new Due();
    private static final int[] NO_VERSION = {-1, 1, Integer.MIN_VALUE, Integer.MAX_VALUE};

    public static void main(String[] args) {
        order();
        orderOfWordsToldTwice();
        orderOfTwelve();
        cover();
        apart();
        slip();
        slipsOfEachSign();
        noticed();
        noticedOneByOne();
        unshown();
        notice();
        noticeAfterChanges();
        due.end();
    }

    private static void orderIs(String what, BookShows x, int... row) {
        for (int i = 0; i < row.length; i++) {
            due.is("15 " + what + ", order(" + i + ")", x.order(i), row[i]);
        }
        for (int i : new int[] {row.length, -3, Integer.MIN_VALUE, Integer.MAX_VALUE}) {
            due.is("15 " + what + ", order(" + i + ")", x.order(i), BookShows.NONE);
        }
    }

    private static void order() {
        BookShows x = new BookShows();
        orderIs("no PAGES", x);
        Due.shows(x, "+b1a1", 0);
        Due.shows(x, "?a1a1h1", 0);
        x.tells(1);
        x.tells(0);
        Due.shows(x, "7", 0);
        x.tells(1);
        due.is("15 EARLY as they stand", x.order(-1), 4);
        due.is("15 EARLY of the best", x.order(-2), 1);
        orderIs("the first by numbers", x, 2, 3, 0, 1, 4, 5);
        BookShows y = new BookShows();
        Due.shows(y, "1", 0);
        y.tells(3);
        Due.shows(y, "d1", 0);
        due.is("15 none early", y.order(-1), 0);
        due.is("15 none early in the best", y.order(-2), 0);
        orderIs("as they stand", y, 0, 1, 2);
        BookShows z = new BookShows();
        Due.shows(z, "g1", 0);
        Due.shows(z, "ab1", 0);
        z.tells(7);
        due.is("15 none told", z.order(-1), 3);
        due.is("15 none told in the best", z.order(-2), 3);
        orderIs("nothing to gain", z, 0, 1, 2);
    }

    private static void orderOfWordsToldTwice() {
        BookShows x = new BookShows();
        x.tells(0);
        x.tells(1);
        x.tells(0);
        Due.shows(x, "+a1b1", 0);
        x.tells(2);
        due.is("15 told twice", x.order(-1), 0);
        due.is("15 told twice, best", x.order(-2), 0);
        orderIs("told twice", x, 0, 1, 2, 3, 4);
        BookShows y = new BookShows();
        y.tells(0);
        y.tells(0);
        Due.shows(y, "ab1", 0);
        Due.shows(y, "a1", 0);
        y.tells(1);
        due.is("15 one is early", y.order(-1), 1);
        orderIs("told twice, then free", y, 0, 1, 3, 4, 2);
    }

    private static void orderOfTwelve() {
        BookShows x = new BookShows();
        for (int word = 0; word < 6; word++) {
            Due.shows(x, "+" + (char) ('a' + word) + "1" + (char) ('a' + (word + 1) % 6) + "1", 0);
        }
        for (int word = 5; word >= 0; word--) {
            x.tells(word);
        }
        due.is("15 twelve PAGES", x.order(-1), 12);
        due.is("15 twelve PAGES at best", x.order(-2), 0);
        orderIs("twelve PAGES", x, 6, 7, 4, 8, 3, 9, 2, 10, 1, 11, 0, 5);
    }

    private static void cover() {
        BookShows x = new BookShows();
        for (int no : NO_VERSION) {
            due.refused("16 cover(" + no + ")", x, () -> x.cover(no), BookShows.UNKNOWN);
        }
        due.is("16 no EXAMPLES", x.cover(0), 0);
        Due.shows(x, "1", 1);
        x.tells(0);
        due.is("16 no WORD used", x.cover(0), 0);
        for (int word = 0; word < 6; word++) {
            Due.word(x, word, "x");
        }
        Due.shows(x, "ab1", 9);
        Due.shows(x, "abc1", 9);
        Due.shows(x, "cde1", 9);
        Due.shows(x, "de1", 9);
        due.is("16 two, of several the least", x.cover(0), 0b10100);
        Due.shows(x, "abcde1", 9);
        due.is("16 one", x.cover(0), 0b1000000);
        Due.shows(x, "g1", 9);
        due.is("16 a GONE WORD is USED, too", x.cover(0), 0b11000000);
        x.version();
        Due.word(x, 4, "");
        due.is("16 in VERSION 1", x.cover(1), 0b10011000);
        due.is("16 in VERSION 0", x.cover(0), 0b11000000);
        for (int word = 0; word < 8; word++) {
            BookShows y = new BookShows();
            Due.shows(y, "1", 1);
            Due.shows(y, (char) ('a' + word) + "1", 1);
            due.is("16 WORD " + word + " alone", y.cover(0), 2);
        }
    }

    private static void apart() {
        BookShows x = new BookShows();
        due.is("17 no EXAMPLES", x.apart(), 0);
        Due.word(x, 0, "0");
        Due.shows(x, "a0", 0);
        due.is("17 one VERSION", x.apart(), 0);
        x.version();
        due.is("17 two that are alike", x.apart(), 0);
        Due.word(x, 0, "1");
        due.is("17 two told apart", x.apart(), 1);
        x.version();
        Due.word(x, 0, "2");
        due.is("17 VERSION 1 and 2 are told apart by none", x.apart(), 1);
        x.tells(0);
        Due.shows(x, "a0", 1);
        Due.shows(x, "a0", 2);
        due.is("17 two of three, the least", x.apart(), 0b101);
        x.version();
        Due.word(x, 0, "3");
        due.is("17 one VERSION more asks for all three", x.apart(), 0b1101);
        Due.shows(x, "?a001", 1);
        Due.shows(x, "m1a0", 1);
        due.is("17 all three, the least", x.apart(), 0b1101);
        Due.shows(x, "?*a0-2a001", 0);
        due.is("17 0 and 2 against 1 and 3", x.held(6, 0, 1) * 8 + x.held(6, 1, 1) * 4 + x.held(6, 2, 1) * 2 + x.held(6, 3, 1), 0b1010);
        Due.shows(x, "?*a0-1a001", 0);
        due.is("17 two halves", x.apart(), 0b11000000);
        BookShows y = new BookShows();
        Due.shows(y, "a0", 0);
        y.version();
        y.version();
        Due.word(y, 0, "0");
        due.is("17 asked for the first time", y.apart(), 1);
        BookShows z = new BookShows();
        Due.word(z, 0, "0");
        Due.shows(z, "a0", 0);
        z.version();
        Due.word(z, 0, "1");
        due.is("17 and here", z.apart(), 1);
    }

    private static void slip() {
        BookShows x = new BookShows();
        for (int no : NO_VERSION) {
            due.refused("18 slip(" + no + ", -1)", x, () -> x.slip(no, -1), BookShows.UNKNOWN);
        }
        due.is("18 none", x.slip(0, -1), 0);
        due.is("18 not the first", x.slip(0, 0), BookShows.NONE);
        Due.word(x, 7, "?x+12*xm9h-x1");
        Due.word(x, 2, "ab7");
        int[] codes = {202, 701, 702, 703, 704, 705, 706, 707, 708, 710, 711, 712};
        due.is("18 how many", x.slip(0, -1), codes.length);
        for (int i = 0; i < codes.length; i++) {
            due.is("18 slip(0, " + i + ")", x.slip(0, i), codes[i]);
        }
        for (int i : new int[] {codes.length, -2, Integer.MIN_VALUE, Integer.MAX_VALUE}) {
            due.is("18 slip(0, " + i + ")", x.slip(0, i), BookShows.NONE);
        }
        x.version();
        Due.word(x, 7, "");
        due.is("18 of VERSION 1", x.slip(1, -1), 1);
        due.is("18 of VERSION 0", x.slip(0, -1), codes.length);
    }

    /** Each WORD's first sign slips: the EXAMPLE that is due what comes of that does not notice, all others do. */
    private static void slipsOfEachSign() {
        String[] texts = {"+x3", "-x3", "*x3", "mx3", "x", "9", "0", "4"};
        int[] slipped = {998, 4, 4, 4, 0, 0, 1, 5};
        for (int i = 0; i < texts.length; i++) {
            BookShows x = new BookShows();
            Due.word(x, 0, texts[i]);
            int now = Due.comes(x, "a1", 0, 0);
            Due.shows(x, "?-a1" + text(slipped[i]) + "01", 1);
            Due.shows(x, "?-a1" + text(slipped[i]) + "00", 0);
            Due.shows(x, "a1", now);
            due.is("18 " + texts[i] + " slips", x.noticed(0, 0), 0b101);
        }
    }

    private static String text(int number) {
        return number == 998 ? "-02" : String.valueOf(number);
    }

    private static void noticed() {
        BookShows x = new BookShows();
        for (int no : NO_VERSION) {
            due.refused("19 version " + no, x, () -> x.noticed(no, -1), BookShows.UNKNOWN);
        }
        due.refused("19 no such SLIP", x, () -> x.noticed(0, 0), BookShows.OUTSIDE);
        Due.word(x, 0, "m3x");
        Due.word(x, 1, "ax");
        Due.word(x, 2, "?xc01");
        Due.shows(x, "b2", 2);
        Due.shows(x, "b2", 3);
        x.tells(0);
        Due.shows(x, "a5", 3);
        Due.shows(x, "c1", 1);
        due.is("19 m", x.noticed(0, 0), 0b1001);
        due.is("19 3, of which m takes the lesser one", x.noticed(0, 1), 0b1000);
        due.is("19 x", x.noticed(0, 2), 0b1001);
        due.is("19 x in the next WORD", x.noticed(0, 3), 1);
        due.is("19 x to 0: ENDLESS does not HOLD", x.noticed(0, 4), 0b10000);
        due.is("19 a digit not looked at", x.noticed(0, 5), 0);
        due.is("19 a digit", x.noticed(0, 6), 0b10000);
        for (int no : new int[] {7, -1, Integer.MIN_VALUE, Integer.MAX_VALUE}) {
            due.refused("19 slip " + no, x, () -> x.noticed(0, no), BookShows.OUTSIDE);
        }
        x.version();
        Due.word(x, 0, "m2x");
        due.is("19 in VERSION 1", x.noticed(1, 1), 0);
        due.is("19 still in VERSION 0", x.noticed(0, 1), 0b1000);
    }

    /** One SLIP at a time: the one ahead in another WORD is gone when the next one is tried. */
    private static void noticedOneByOne() {
        BookShows x = new BookShows();
        Due.word(x, 0, "1");
        Due.word(x, 1, "5");
        Due.word(x, 2, "7");
        Due.shows(x, "+a0*0+b0c0", 1);
        due.is("19 in a", x.noticed(0, 0), 1);
        due.is("19 in b", x.noticed(0, 1), 0);
        due.is("19 in c", x.noticed(0, 2), 0);
        due.is("20 two", x.unshown(0, -1), 2);
    }

    private static void unshown() {
        BookShows x = new BookShows();
        for (int no : NO_VERSION) {
            due.refused("20 version " + no, x, () -> x.unshown(no, -1), BookShows.UNKNOWN);
        }
        due.is("20 none", x.unshown(0, -1), 0);
        Due.word(x, 0, "?x1+x2");
        Due.word(x, 1, "*x3");
        due.is("20 all, without EXAMPLES", x.unshown(0, -1), 8);
        Due.shows(x, "a5", 7);
        int[] left = {1, 5, 6, 7};
        due.is("20 how many", x.unshown(0, -1), left.length);
        for (int i = 0; i < left.length; i++) {
            due.is("20 unshown(0, " + i + ")", x.unshown(0, i), left[i]);
        }
        for (int i : new int[] {left.length, -2, Integer.MIN_VALUE, Integer.MAX_VALUE}) {
            due.is("20 unshown(0, " + i + ")", x.unshown(0, i), BookShows.NONE);
        }
        Due.shows(x, "a0", 1);
        Due.shows(x, "b2", 6);
        due.is("20 all are shown", x.unshown(0, -1), 0);
        due.is("20 none is left", x.unshown(0, 0), BookShows.NONE);
    }

    private static void notice() {
        BookShows x = new BookShows();
        for (int no : NO_VERSION) {
            due.refused("21 notice(" + no + ")", x, () -> x.notice(no), BookShows.UNKNOWN);
        }
        due.is("21 no EXAMPLES", x.notice(0), 0);
        Due.word(x, 0, "1");
        Due.word(x, 1, "1");
        Due.word(x, 2, "1");
        Due.shows(x, "1", 1);
        due.is("21 none notices any", x.notice(0), 0);
        Due.shows(x, "a0", 1);
        Due.shows(x, "b0", 1);
        Due.shows(x, "+a0b0", 2);
        Due.shows(x, "+c0b0", 2);
        due.is("21 two", x.notice(0), 0b10010);
        Due.shows(x, "+a0+b0c0", 4);
        due.is("21 one that does not HOLD does not notice", x.notice(0), 0b10010);
        x.mend(5, 0);
        due.is("21 one", x.notice(0), 0b100000);
    }

    private static void noticeAfterChanges() {
        BookShows x = new BookShows();
        Due.word(x, 0, "1");
        Due.shows(x, "a0", 1);
        due.is("19 noticed", x.noticed(0, 0), 1);
        Due.shows(x, "?a005", 5);
        due.is("19 an EXAMPLE more", x.noticed(0, 0), 1);
        Due.shows(x, "a0", 1);
        due.is("19 and one more", x.noticed(0, 0), 0b101);
        x.image(0);
        Due.word(x, 0, "2");
        due.is("19 another text", x.noticed(0, 0), 0);
        x.mend(0, 0);
        due.is("19 mended", x.noticed(0, 0), 1);
        x.version();
        due.is("19 another VERSION", x.noticed(1, 0), 1);
        Due.word(x, 0, "+12");
        due.is("19 changed there", x.noticed(1, 0), 0);
        x.restore(0);
        due.is("19 restored", x.noticed(0, 0), 0b101);
        due.is("20 restored", x.unshown(0, -1), 0);
        x.version();
        due.is("21 a new VERSION", x.notice(1), 1);
    }
}
