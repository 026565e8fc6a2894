/**
 * Part 2 of the document's terms and promises 9 to 14, sentence by sentence where one names an edge. Above each
 * method stands the sentence that it is for.
 */
public final class BookEdgesTest {
    private static final int GONE = -10;
    private static final int ENDLESS = -11;

    private static final Due due = new Due();

    public static void main(String[] args) {
        twelvePages();
        numberedAsTheyStand();
        dueNumbers();
        withoutX();
        thePadIsEmptyThen();
        pageOfEachKind();
        holdsIfItComesToDue();
        usedAndNamed();
        usedUpToWhereItEnds();
        usedWhereItIsEndless();
        askedInEachVersion();
        staleFrom();
        staleByGoneAndEndless();
        blameInVersionNought();
        blameIsOfTheVersionAhead();
        blameOfFewest();
        blameOfGoneAndEndless();
        noneMakeItHold();
        due.end();
    }

    // PAGES, 12 at most

    private static void twelvePages() {
        BookShows x = new BookShows();
        for (int page = 0; page < 12; page++) {
            due.is("9 tells", x.tells(7), page);
        }
        due.refused("9 the 13th tells", x, () -> x.tells(7), BookShows.FULL);
        x.say('1');
        due.refused("10 the 13th shows", x, () -> x.shows(1), BookShows.FULL);
        BookShows y = new BookShows();
        for (int page = 0; page < 12; page++) {
            due.is("10 shows", Due.shows(y, "1", 1), page);
        }
        y.say('1');
        due.refused("10 the 13th shows of 12", y, () -> y.shows(1), BookShows.FULL);
        due.refused("9 the 13th tells of 12", y, () -> y.tells(7), BookShows.FULL);
        due.is("26 twelve that SHOW", y.told(3), 0b111111111111);
        due.is("12 the twelfth", y.held(11, 0, 1), 1);
        due.is("12 no thirteenth", y.held(12, 0, 1), BookShows.UNKNOWN);
    }

    // numbered from 0 on as they stand: one TELLS a WORD, or SHOWS an EXAMPLE

    private static void numberedAsTheyStand() {
        BookShows x = new BookShows();
        due.is("9 PAGE 0", x.tells(0), 0);
        due.is("10 PAGE 1", Due.shows(x, "+12", 3), 1);
        due.is("9 PAGE 2, the same WORD again", x.tells(0), 2);
        due.is("10 PAGE 3, the same EXAMPLE again", Due.shows(x, "+12", 3), 3);
        due.is("9 PAGE 4", x.tells(7), 4);
        for (int page = 0; page < 5; page++) {
            due.is("11 what PAGE " + page + " TELLS", x.page(page, 0), page % 2 == 1 ? BookShows.NONE : page == 4 ? 7 : 0);
        }
        due.is("11 no PAGE 5", x.page(5, 0), BookShows.UNKNOWN);
        due.is("26 PAGES", x.told(2), 5);
    }

    // a DUE number (0 to 999)

    private static void dueNumbers() {
        BookShows x = new BookShows();
        due.is("10 due 0", Due.shows(x, "0", 0), 0);
        due.is("10 due 999", Due.shows(x, "-01", 999), 1);
        due.is("11 due 0", x.page(0, 1), 0);
        due.is("11 due 999", x.page(1, 1), 999);
        due.is("12 due 0 HOLDS", x.held(0, 0, 1), 1);
        due.is("12 due 999 HOLDS", x.held(1, 0, 1), 1);
        x.say('0');
        for (int no : new int[] {Integer.MIN_VALUE, -11, -10, -1, 1000, 1001, Integer.MAX_VALUE}) {
            due.refused("10 due " + no, x, () -> x.shows(no), BookShows.OUTSIDE);
        }
    }

    // a text without x

    private static void withoutX() {
        BookShows x = new BookShows();
        Due.word(x, 0, "+x1");
        for (String text : new String[] {"x", "+x1", "+1x", "?0x1", "?01x", "aaaaaax", "ax"}) {
            x.wipe();
            Due.say(x, text);
            due.refused("10 " + text, x, () -> x.shows(1), BookShows.NO);
        }
        due.is("10 an x in the WORD's text", Due.shows(x, "a1", 2), 0);
        due.is("12 that HOLDS", x.held(0, 0, 1), 1);
    }

    // A PAGE that SHOWS the PAD (it is empty then)

    private static void thePadIsEmptyThen() {
        BookShows x = new BookShows();
        Due.say(x, "+12");
        due.is("9 the PAD stays with tells", x.tells(0) == 0 ? x.told(0) : -99, 3);
        due.is("10 the PAD goes with shows", x.shows(3) == 1 ? x.told(0) : -99, 0);
        due.is("10 without signs no EXAMPLE", x.shows(3), BookShows.NO);
        Due.say(x, "*34");
        due.is("12 the EXAMPLE is not the PAD itself", x.held(1, 0, 0), 3);
    }

    // 0 the WORD that it TELLS (NONE: it SHOWS), 1 DUE (NONE), 2 NAMED as bits (0: it TELLS), 3 how many signs

    private static void pageOfEachKind() {
        BookShows x = new BookShows();
        x.tells(7);
        Due.shows(x, "?+a1b1+cd1e1?f1g1h1", 0);
        Due.shows(x, "0", 999);
        Due.shows(x, "?" + "??123?123?123".repeat(3), 3);
        Due.shows(x, "+a1aa1", 3);
        int[][] want = {{7, BookShows.NONE, 0, 0}, {BookShows.NONE, 0, 255, 19}, {BookShows.NONE, 999, 0, 1},
            {BookShows.NONE, 3, 0, 40}, {BookShows.NONE, 3, 1, 6}};
        for (int page = 0; page < want.length; page++) {
            for (int what = 0; what < 4; what++) {
                due.is("11 page(" + page + ", " + what + ")", x.page(page, what), want[page][what]);
            }
            int no = page;
            due.refused("11 page(" + page + ", 4)", x, () -> x.page(no, 4), BookShows.OUTSIDE);
            due.refused("11 page(" + page + ", -1)", x, () -> x.page(no, -1), BookShows.OUTSIDE);
        }
        for (int word = 0; word < 8; word++) {
            BookShows y = new BookShows();
            y.tells(word);
            Due.shows(y, (char) ('a' + word) + "1", 0);
            due.is("11 it TELLS " + word, y.page(0, 0), word);
            due.is("11 it NAMES " + word, y.page(1, 2), 1 << word);
        }
    }

    // An EXAMPLE HOLDS in a VERSION, if its text comes to DUE there

    private static void holdsIfItComesToDue() {
        BookShows x = new BookShows();
        Due.word(x, 0, "ax");
        for (int number : new int[] {0, 1, 989, 990, 999}) {
            int gone = Due.shows(x, "h1", number);
            int endless = Due.shows(x, "a1", number);
            due.is("12 GONE, due " + number, x.held(gone, 0, 0), GONE);
            due.is("12 GONE does not HOLD", x.held(gone, 0, 1), 0);
            due.is("12 ENDLESS, due " + number, x.held(endless, 0, 0), ENDLESS);
            due.is("12 ENDLESS does not HOLD", x.held(endless, 0, 1), 0);
        }
        due.is("12 one below DUE", x.held(Due.shows(x, "4", 5), 0, 1), 0);
        due.is("12 one above DUE", x.held(Due.shows(x, "6", 5), 0, 1), 0);
    }

    // USED: WORDS that are given something, as it comes to what it does (GONE ones, too). NAMED: WORDS in its text.

    private static void usedAndNamed() {
        BookShows x = new BookShows();
        Due.word(x, 0, "bx");
        Due.word(x, 1, "?x1c1");
        Due.word(x, 2, "x");
        Due.shows(x, "a0", 0);
        Due.shows(x, "a1", 0);
        Due.shows(x, "?0a0h1", 0);
        Due.shows(x, "?1a0h1", 0);
        Due.shows(x, "7", 0);
        Due.shows(x, "?c0+1d1e1", 0);
        int[] used = {0b11, 0b111, 0b11, 0b10000000, 0, 0b1100};
        int[] named = {1, 1, 0b10000001, 0b10000001, 0, 0b11100};
        for (int page = 0; page < used.length; page++) {
            due.is("12 USED by PAGE " + page, x.held(page, 0, 2), used[page]);
            due.is("11 NAMED in PAGE " + page, x.page(page, 2), named[page]);
        }
        Due.word(x, 0, "");
        due.is("12 USED, GONE then", x.held(1, 0, 2), 1);
        due.is("11 NAMED, GONE then", x.page(1, 2), 1);
    }

    private static void usedUpToWhereItEnds() {
        BookShows x = new BookShows();
        Due.word(x, 0, "x");
        Due.word(x, 1, "h1");
        Due.word(x, 2, "cx");
        Due.shows(x, "+a1+h1d1", 0);
        Due.shows(x, "da1", 0);
        Due.shows(x, "ah1", 0);
        Due.shows(x, "+ab1c1", 0);
        Due.shows(x, "+c1a1", 0);
        Due.shows(x, "+a1ac1", 0);
        int[] used = {0b10000001, 0b1001, 0b10000000, 0b10000010, 0b100, 0b101};
        for (int page = 0; page < used.length; page++) {
            due.is("12 USED by PAGE " + page + " that ends", x.held(page, 0, 2), used[page]);
        }
    }

    /** A WORD that is not given something any more, as all is ENDLESS there, is not USED by that. */
    private static void usedWhereItIsEndless() {
        BookShows x = new BookShows();
        Due.word(x, 0, "?xb1a-x1");
        Due.word(x, 1, "x");
        Due.shows(x, "a+99", 1);
        Due.shows(x, "a+9+91", 1);
        Due.shows(x, "+b1a+9+91", 2);
        due.is("12 the 20th is given something", x.held(0, 0, 0), 1);
        due.is("12 and USED", x.held(0, 0, 2), 0b11);
        due.is("12 the 21st makes it ENDLESS", x.held(1, 0, 0), ENDLESS);
        due.is("12 and is not USED", x.held(1, 0, 2), 1);
        due.is("12 ENDLESS, too", x.held(2, 0, 0), ENDLESS);
        due.is("12 but USED before", x.held(2, 0, 2), 0b11);
    }

    // held: in a VERSION

    private static void askedInEachVersion() {
        BookShows x = new BookShows();
        Due.shows(x, "a0", 3);
        for (int version = 0; version < 6; version++) {
            Due.word(x, 0, String.valueOf(version));
            if (version < 5) {
                x.version();
            }
        }
        for (int version = 0; version < 6; version++) {
            due.is("12 in VERSION " + version, x.held(0, version, 0), version);
            due.is("12 HOLDS in VERSION " + version, x.held(0, version, 1), version == 3 ? 1 : 0);
        }
        due.is("12 in VERSION 6", x.held(0, 6, 0), BookShows.UNKNOWN);
        due.is("12 what = 3", x.held(0, 5, 3), BookShows.OUTSIDE);
    }

    // STALE from a VERSION on: the first one behind one in which it HELD, in which it does not

    /** Whether it HOLDS in VERSIONS, from VERSION 0 on, and what is due of stale. */
    private static void staleIs(String holds, int want) {
        BookShows x = new BookShows();
        Due.shows(x, "a0", 1);
        for (int version = 0; version < holds.length(); version++) {
            if (version > 0) {
                x.version();
            }
            Due.word(x, 0, holds.substring(version, version + 1));
        }
        due.is("13 HOLDS in " + holds, x.stale(0), want);
    }

    private static void staleFrom() {
        staleIs("0", BookShows.NONE);
        staleIs("1", BookShows.NONE);
        staleIs("10", 1);
        staleIs("01", BookShows.NONE);
        staleIs("11", BookShows.NONE);
        staleIs("00", BookShows.NONE);
        staleIs("010", 2);
        staleIs("1010", 1);
        staleIs("100001", 1);
        staleIs("000010", 5);
        staleIs("000001", BookShows.NONE);
        staleIs("111110", 5);
        staleIs("111111", BookShows.NONE);
        staleIs("001101", 4);
    }

    private static void staleByGoneAndEndless() {
        BookShows x = new BookShows();
        Due.word(x, 0, "1");
        Due.word(x, 1, "1");
        Due.shows(x, "a0", 1);
        Due.shows(x, "b0", 1);
        x.version();
        Due.word(x, 0, "");
        x.version();
        Due.word(x, 1, "bx");
        due.is("13 GONE", x.stale(0), 1);
        due.is("13 ENDLESS", x.stale(1), 2);
    }

    // BLAME of an EXAMPLE in a VERSION (above 0) in which it does not HOLD; STATE: VERSION 0, or it HOLDS

    private static void blameInVersionNought() {
        BookShows x = new BookShows();
        Due.word(x, 0, "1");
        Due.shows(x, "a0", 1);
        Due.shows(x, "a0", 2);
        Due.shows(x, "h0", 2);
        for (int page = 0; page < 3; page++) {
            due.is("14 blame(" + page + ", 0)", x.blame(page, 0), BookShows.STATE);
        }
        x.version();
        due.is("14 it HOLDS in VERSION 1", x.blame(0, 1), BookShows.STATE);
        due.is("14 it does not", x.blame(1, 1), BookShows.NO);
        Due.word(x, 0, "2");
        due.is("14 blame in VERSION 1", x.blame(0, 1), 1);
        due.is("14 it HOLDS there now", x.blame(1, 1), BookShows.STATE);
    }

    // being as they were in the VERSION ahead

    private static void blameIsOfTheVersionAhead() {
        BookShows x = new BookShows();
        Due.word(x, 0, "1");
        Due.shows(x, "a0", 1);
        for (int version = 1; version < 6; version++) {
            x.version();
            if (version == 1 || version == 5) {
                Due.word(x, 0, version == 1 ? "2" : "1");
            }
        }
        due.is("14 in VERSION 1", x.blame(0, 1), 1);
        for (int version = 2; version < 5; version++) {
            due.is("14 in VERSION " + version, x.blame(0, version), BookShows.NO);
        }
        due.is("14 in VERSION 5 it HOLDS", x.blame(0, 5), BookShows.STATE);
        x.mend(0, 4);
        due.is("14 in VERSION 5 of the last two", x.blame(0, 5), 1);
        due.is("14 in VERSION 6", x.blame(0, 6), BookShows.UNKNOWN);
    }

    // the fewest WORDS; of several sets the least as bits

    private static void blameOfFewest() {
        BookShows x = new BookShows();
        for (int word = 0; word < 8; word++) {
            Due.word(x, word, "1");
        }
        Due.shows(x, "*+a0d0+b0c0", 0);
        Due.shows(x, "*+e0f0*+a0b0h0", 0);
        Due.shows(x, "+++a0b0+c0d0++e0f0+g0h0", 0);
        Due.shows(x, "+g0h0", 0);
        Due.shows(x, "*g0h0", 0);
        for (int page = 0; page < 5; page++) {
            due.is("DUE is what VERSION 0 has", x.mend(page, 0), 0);
        }
        x.version();
        for (int word = 0; word < 8; word++) {
            Due.word(x, word, "0");
        }
        due.is("14 all four for a product of 4", x.blame(0, 1), 0b1111);
        due.is("14 all of five", x.blame(1, 1), 0b10110011);
        due.is("14 all eight", x.blame(2, 1), 255);
        due.is("14 both", x.blame(3, 1), 0b11000000);
        due.is("14 both for a product", x.blame(4, 1), 0b11000000);
        BookShows y = new BookShows();
        for (int word = 0; word < 8; word++) {
            Due.word(y, word, "1");
        }
        Due.shows(y, "+*a0d0*b0c0", 1);
        Due.shows(y, "+*a0b0h0", 1);
        Due.shows(y, "++g0h0+f0c0", 1);
        Due.shows(y, "++g0h0+f0c0", 2);
        y.version();
        for (int word = 0; word < 8; word++) {
            Due.word(y, word, "0");
        }
        due.is("14 b and c are less as bits than a and d", y.blame(0, 1), 0b0110);
        due.is("14 one, though two are less as bits", y.blame(1, 1), 0b10000000);
        due.is("14 one of four", y.blame(2, 1), 0b100);
        due.is("14 two of four", y.blame(3, 1), 0b100100);
    }

    private static void blameOfGoneAndEndless() {
        BookShows x = new BookShows();
        Due.word(x, 0, "bx");
        Due.word(x, 1, "4");
        Due.word(x, 3, "8");
        Due.shows(x, "a0", 4);
        Due.shows(x, "d0", 8);
        x.version();
        Due.word(x, 1, "");
        Due.word(x, 3, "dx");
        due.is("14 it comes to GONE", x.blame(0, 1), 0b10);
        due.is("14 it comes to ENDLESS", x.blame(1, 1), 0b1000);
        x.version();
        Due.word(x, 0, "");
        due.is("14 GONE ahead, too", x.blame(0, 2), BookShows.NO);
        x.version();
        for (int word = 0; word < 8; word++) {
            Due.word(x, word, "");
        }
        due.is("14 all GONE", x.blame(0, 3), BookShows.NO);
        x.version();
        Due.word(x, 0, "4");
        due.is("14 it HOLDS, where all were GONE ahead", x.blame(0, 4), BookShows.STATE);
        Due.word(x, 0, "5");
        due.is("14 taken back it would be GONE", x.blame(0, 4), BookShows.NO);
    }

    // NO: none make it HOLD

    private static void noneMakeItHold() {
        BookShows x = new BookShows();
        Due.word(x, 0, "1");
        Due.word(x, 1, "1");
        Due.shows(x, "+a0b0", 9);
        Due.shows(x, "7", 9);
        x.version();
        due.is("14 nothing has changed", x.blame(0, 1), BookShows.NO);
        Due.word(x, 0, "2");
        Due.word(x, 1, "3");
        due.is("14 two have, for nothing", x.blame(0, 1), BookShows.NO);
        due.is("14 an EXAMPLE without WORDS", x.blame(1, 1), BookShows.NO);
    }
}
