/** Promises 9 to 14: PAGES, what EXAMPLES come to, STALE, BLAME. */
public final class BookTest {
    private static final Due due = new Due();
    private static final int[] NO_WORD = {-1, 8, Integer.MIN_VALUE, Integer.MAX_VALUE};
    private static final int[] NO_NUMBER = {-1, 1000, Integer.MIN_VALUE, Integer.MAX_VALUE};

    public static void main(String[] args) {
        tells();
        shows();
        page();
        held();
        heldUsed();
        heldAfterChanges();
        stale();
        blame();
        blameOfSeveral();
        blameOfAll();
        blameOfGoneWords();
        due.end();
    }

    private static void tells() {
        BookShows x = new BookShows();
        Due.say(x, "+1");
        for (int no : NO_WORD) {
            due.refused("9 tells(" + no + ")", x, () -> x.tells(no), BookShows.UNKNOWN);
        }
        for (int page = 0; page < 12; page++) {
            due.is("9 tells " + page, x.tells(page % 8), page);
        }
        due.is("9 the PAD stays", x.told(0), 2);
        due.refused("9 the 13th", x, () -> x.tells(0), BookShows.FULL);
        due.refused("9 UNKNOWN ahead of FULL", x, () -> x.tells(8), BookShows.UNKNOWN);
        due.is("9 what it tells", x.page(9, 0), 1);
        due.is("9 told(2)", x.told(2), 12);
    }

    private static void shows() {
        BookShows x = new BookShows();
        due.is("10 shows", Due.shows(x, "+12", 3), 0);
        due.is("10 the PAD is empty", x.told(0), 0);
        due.refused("10 without signs", x, () -> x.shows(3), BookShows.NO);
        Due.say(x, "+1");
        due.refused("10 with a FAULT", x, () -> x.shows(3), BookShows.NO);
        x.say('x');
        due.refused("10 with an x", x, () -> x.shows(3), BookShows.NO);
        x.wipe();
        x.say('x');
        due.refused("10 with an x alone", x, () -> x.shows(3), BookShows.NO);
        for (int no : NO_NUMBER) {
            due.refused("10 shows(" + no + ")", x, () -> x.shows(no), BookShows.OUTSIDE);
        }
        due.is("10 due 999", Due.shows(x, "9", 999), 1);
        due.is("10 due 0", Due.shows(x, "a9", 0), 2);
        while (x.told(2) < 12) {
            x.tells(0);
        }
        Due.say(x, "!");
        due.refused("10 FULL ahead of NO", x, () -> x.shows(0), BookShows.FULL);
        due.refused("10 OUTSIDE ahead of FULL", x, () -> x.shows(1000), BookShows.OUTSIDE);
    }

    private static void page() {
        BookShows x = new BookShows();
        x.tells(5);
        Due.shows(x, "?a1h2-c3a4", 77);
        int[] told = {5, BookShows.NONE, 0, 0};
        int[] shown = {BookShows.NONE, 77, 0b10000101, 10};
        for (int what = 0; what < 4; what++) {
            due.is("11 page(0, " + what + ")", x.page(0, what), told[what]);
            due.is("11 page(1, " + what + ")", x.page(1, what), shown[what]);
        }
        for (int no : new int[] {-1, 4, Integer.MIN_VALUE, Integer.MAX_VALUE}) {
            due.refused("11 what = " + no, x, () -> x.page(0, no), BookShows.OUTSIDE);
        }
        for (int no : new int[] {-1, 2, Integer.MIN_VALUE, Integer.MAX_VALUE}) {
            due.refused("11 page " + no, x, () -> x.page(no, 9), BookShows.UNKNOWN);
        }
        due.is("11 a page that names none, WORDS", Due.shows(x, "m12", 1) == 2 ? x.page(2, 2) : -99, 0);
    }

    private static void held() {
        BookShows x = new BookShows();
        x.tells(0);
        Due.word(x, 0, "+x3");
        Due.shows(x, "a4", 7);
        Due.shows(x, "a4", 8);
        due.is("12 outcome", x.held(1, 0, 0), 7);
        due.is("12 it HOLDS", x.held(1, 0, 1), 1);
        due.is("12 USED", x.held(1, 0, 2), 1);
        due.is("12 another DUE", x.held(2, 0, 1), 0);
        for (int no : new int[] {-1, 3, Integer.MIN_VALUE, Integer.MAX_VALUE}) {
            due.refused("12 what = " + no, x, () -> x.held(1, 0, no), BookShows.OUTSIDE);
            due.refused("12 UNKNOWN page first", x, () -> x.held(3, 0, no), BookShows.UNKNOWN);
            due.refused("12 UNKNOWN version first", x, () -> x.held(1, 1, no), BookShows.UNKNOWN);
        }
        due.refused("12 it TELLS", x, () -> x.held(0, 0, 0), BookShows.UNKNOWN);
        for (int no : new int[] {-1, Integer.MIN_VALUE, Integer.MAX_VALUE}) {
            due.refused("12 page " + no, x, () -> x.held(no, 0, 0), BookShows.UNKNOWN);
            due.refused("12 version " + no, x, () -> x.held(1, no, 0), BookShows.UNKNOWN);
        }
    }

    private static void heldUsed() {
        BookShows x = new BookShows();
        Due.word(x, 0, "?xb1c1");
        Due.word(x, 1, "x");
        Due.word(x, 3, "d+x1");
        Due.word(x, 4, "?xb1e-x1");
        Due.shows(x, "a0", 1);
        Due.shows(x, "a1", 1);
        Due.shows(x, "?a0b1h1", 1);
        Due.shows(x, "+b1d0", 1);
        Due.shows(x, "e+9+91", 1);
        Due.shows(x, "?1h1a0", 1);
        due.is("12 USED: WORDS given something", x.held(0, 0, 2), 0b11);
        due.is("12 USED: a GONE one, too", x.held(1, 0, 2), 0b101);
        due.is("12 it comes to GONE", x.held(1, 0, 0), -10);
        due.is("12 GONE does not HOLD", x.held(1, 0, 1), 0);
        due.is("12 USED up to where it is GONE", x.held(2, 0, 2), 0b10000011);
        due.is("12 it comes to ENDLESS", x.held(3, 0, 0), -11);
        due.is("12 USED in an ENDLESS one", x.held(3, 0, 2), 0b1010);
        due.is("12 ENDLESS by the 21st", x.held(4, 0, 0), -11);
        due.is("12 that one is given nothing", x.held(4, 0, 2), 0b10000);
        due.is("12 not USED, if not looked at", x.held(5, 0, 2), 0b11);
    }

    private static void heldAfterChanges() {
        BookShows x = new BookShows();
        Due.word(x, 0, "1");
        Due.shows(x, "a0", 1);
        due.is("12 VERSION 0", x.held(0, 0, 0), 1);
        Due.word(x, 0, "2");
        due.is("12 a WORD changed", x.held(0, 0, 0), 2);
        x.version();
        due.is("12 VERSION 1", x.held(0, 1, 0), 2);
        Due.word(x, 0, "bx");
        due.is("12 changed there", x.held(0, 1, 0), -10);
        due.is("12 USED there", x.held(0, 1, 2), 0b11);
        due.is("12 not here", x.held(0, 0, 0), 2);
        due.is("12 USED here", x.held(0, 0, 2), 1);
    }

    private static void stale() {
        BookShows x = new BookShows();
        x.tells(0);
        Due.shows(x, "a1", 2);
        Due.shows(x, "a1", 3);
        Due.shows(x, "a1", 4);
        Due.shows(x, "1", 1);
        String[] texts = {"+x1", "+x2", "+x1", "+x1", "", "+x1"};
        for (int version = 0; version < 6; version++) {
            Due.word(x, 0, texts[version]);
            if (version < 5) {
                x.version();
            }
        }
        due.is("13 the first of several", x.stale(1), 1);
        due.is("13 it did not HOLD at first", x.stale(2), 2);
        due.is("13 it never HELD", x.stale(3), BookShows.NONE);
        due.is("13 it always HOLDS", x.stale(4), BookShows.NONE);
        due.is("13 mended to what it is last", x.mend(1, 1), 2);
        due.is("13 stale then", x.stale(1), 2);
        for (int no : new int[] {0, -1, 5, Integer.MIN_VALUE, Integer.MAX_VALUE}) {
            due.refused("13 page " + no, x, () -> x.stale(no), BookShows.UNKNOWN);
        }
        BookShows y = new BookShows();
        Due.shows(y, "1", 2);
        due.is("13 one VERSION in which it does not HOLD", y.stale(0), BookShows.NONE);
    }

    private static void blame() {
        BookShows x = new BookShows();
        x.tells(0);
        Due.word(x, 0, "+x1");
        Due.word(x, 1, "*x2");
        Due.shows(x, "ba3", 8);
        Due.shows(x, "ba3", 11);
        x.version();
        due.refused("14 it HOLDS", x, () -> x.blame(1, 1), BookShows.STATE);
        due.refused("14 VERSION 0", x, () -> x.blame(2, 0), BookShows.STATE);
        due.refused("14 nothing changed", x, () -> x.blame(2, 1), BookShows.NO);
        Due.word(x, 0, "+x2");
        Due.word(x, 2, "5");
        due.is("14 one WORD", x.blame(1, 1), 1);
        Due.word(x, 1, "*x3");
        due.is("14 two WORDS", x.blame(1, 1), 3);
        due.is("14 none", x.blame(2, 1), BookShows.NO);
        x.mend(2, 1);
        due.is("14 it HOLDS now", x.blame(2, 1), BookShows.STATE);
        x.version();
        due.is("14 the VERSION ahead alone counts", x.blame(1, 2), BookShows.NO);
        for (int no : new int[] {0, -1, 3, Integer.MIN_VALUE, Integer.MAX_VALUE}) {
            due.refused("14 page " + no, x, () -> x.blame(no, 0), BookShows.UNKNOWN);
        }
        for (int no : new int[] {-1, 3, Integer.MIN_VALUE, Integer.MAX_VALUE}) {
            due.refused("14 version " + no, x, () -> x.blame(1, no), BookShows.UNKNOWN);
        }
    }

    private static void blameOfSeveral() {
        BookShows x = new BookShows();
        for (int word = 0; word < 8; word++) {
            Due.word(x, word, "x");
        }
        Due.shows(x, "abcdef0", 1);
        Due.shows(x, "abcdef0", 2);
        Due.word(x, 5, "+x1");
        Due.word(x, 3, "+x1");
        x.version();
        Due.word(x, 5, "x");
        Due.word(x, 3, "x");
        Due.word(x, 0, "x");
        due.is("14 of several sets the least as bits", x.blame(0, 1), 0b1000);
        due.is("14 both at once", x.blame(1, 1), 0b101000);

        BookShows y = new BookShows();
        Due.word(y, 0, "1");
        Due.word(y, 1, "1");
        Due.word(y, 2, "1");
        Due.shows(y, "?*a0b0c01", 1);
        y.version();
        Due.word(y, 0, "0");
        Due.word(y, 1, "0");
        Due.word(y, 2, "2");
        due.is("14 one, though two of lesser bits would do", y.blame(0, 1), 0b100);
        Due.word(y, 2, "1");
        y.version();
        Due.word(y, 2, "2");
        due.is("14 back to the last one ahead", y.blame(0, 2), 0b100);
    }

    private static void blameOfAll() {
        BookShows x = new BookShows();
        for (int word = 0; word < 8; word++) {
            Due.word(x, word, "+x1");
        }
        Due.shows(x, "+abcd0efgh0", 8);
        x.version();
        for (int word = 0; word < 8; word++) {
            Due.word(x, word, "x");
        }
        due.is("14 all eight", x.blame(0, 1), 0b11111111);
        x.version();
        for (int word = 0; word < 8; word++) {
            Due.word(x, word, "+x1");
        }
        due.is("14 it HOLDS again", x.blame(0, 2), BookShows.STATE);
        x.mend(0, 1);
        due.is("14 as in VERSION 0, but not as in the one ahead", x.blame(0, 2), 0b11111111);
    }

    private static void blameOfGoneWords() {
        BookShows x = new BookShows();
        Due.word(x, 0, "?xb09");
        Due.shows(x, "a0", 5);
        x.version();
        Due.word(x, 0, "?x59");
        Due.word(x, 1, "4");
        due.is("14 it HOLDS", x.blame(0, 1), BookShows.STATE);
        x.version();
        Due.word(x, 0, "");
        due.is("14 a GONE one taken back", x.blame(0, 2), 1);
        x.version();
        Due.word(x, 0, "b0");
        due.is("14 back to GONE helps none", x.blame(0, 3), BookShows.NO);
    }
}
