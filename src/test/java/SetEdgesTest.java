/**
 * Part 3 of the document's terms and promises 15 to 21, sentence by sentence where one names an edge. Above each
 * method stands the sentence that it is for.
 */
public final class SetEdgesTest {
    private static final Due due = new Due();

    public static void main(String[] args) {
        noPages();
        pagesThatOnlyTell();
        pagesThatOnlyShow();
        wordsAllGone();
        earlyOfNamed();
        orderAsked();
        orderFirstByNumbers();
        coverOfAllThatAnyUsed();
        coverLeastAsBits();
        apartTellsVersionsApart();
        apartLeastAsBits();
        apartOfSix();
        slipsNumbered();
        mostSlips();
        slipOfEachDigit();
        slipOfOtherSigns();
        slipBesideLettersAndQuestions();
        noticedByThoseThatHold();
        noticedByGoneAndEndless();
        unshownAsked();
        noticeLeastAsBits();
        noticeOfTwelve();
        due.end();
    }

    /** WORDS a, b, .. that come to 1 each. */
    private static void ones(BookShows x, int words) {
        for (int word = 0; word < words; word++) {
            Due.word(x, word, "1");
        }
    }

    private static void rowIs(String what, BookShows x, int... row) {
        for (int i = 0; i < row.length; i++) {
            due.is("15 " + what + ": order(" + i + ")", x.order(i), row[i]);
        }
        for (int i : new int[] {Integer.MIN_VALUE, -4, -3, row.length, 12, 13, Integer.MAX_VALUE}) {
            due.is("15 " + what + ": order(" + i + ")", x.order(i), i >= 0 && i < row.length ? row[i] : BookShows.NONE);
        }
    }

    // no PAGES (a new object)

    private static void noPages() {
        BookShows x = new BookShows();
        ones(x, 2);
        x.version();
        Due.word(x, 0, "2");
        due.is("15 EARLY", x.order(-1), 0);
        due.is("15 EARLY of the best", x.order(-2), 0);
        rowIs("no PAGES", x);
        due.is("17 APART", x.apart(), 0);
        for (int version = 0; version < 2; version++) {
            due.is("16 COVER", x.cover(version), 0);
            due.is("18 SLIPS", x.slip(version, -1), 2);
            due.is("19 NOTICED", x.noticed(version, 0), 0);
            due.is("20 UNSHOWN", x.unshown(version, -1), 2);
            due.is("20 the second", x.unshown(version, 1), 1);
            due.is("21 NOTICE", x.notice(version), 0);
        }
        due.is("26 PAGES that SHOW", x.told(3), 0);
    }

    private static void pagesThatOnlyTell() {
        BookShows x = new BookShows();
        ones(x, 2);
        for (int page = 0; page < 12; page++) {
            x.tells((11 - page) % 8);
        }
        x.version();
        Due.word(x, 0, "2");
        due.is("15 EARLY", x.order(-1), 0);
        due.is("15 EARLY of the best", x.order(-2), 0);
        rowIs("only TELL", x, 0, 1, 2, 3, 4, 5, 6, 7, 8, 9, 10, 11);
        due.is("17 APART", x.apart(), 0);
        for (int version = 0; version < 2; version++) {
            due.is("16 COVER", x.cover(version), 0);
            due.is("19 NOTICED", x.noticed(version, 1), 0);
            due.is("20 UNSHOWN", x.unshown(version, -1), 2);
            due.is("21 NOTICE", x.notice(version), 0);
        }
        due.is("26 PAGES that SHOW", x.told(3), 0);
        due.is("12 no EXAMPLE", x.held(0, 0, 0), BookShows.UNKNOWN);
        due.is("13 no EXAMPLE", x.stale(0), BookShows.UNKNOWN);
        due.is("14 no EXAMPLE", x.blame(0, 1), BookShows.UNKNOWN);
        due.is("22 no EXAMPLE", x.mend(0, 0), BookShows.UNKNOWN);
        due.is("23 no EXAMPLE", x.instead(0, 0), BookShows.UNKNOWN);
    }

    private static void pagesThatOnlyShow() {
        BookShows x = new BookShows();
        ones(x, 2);
        Due.shows(x, "+a0b0", 2);
        Due.shows(x, "aa0", 1);
        Due.shows(x, "5", 5);
        due.is("15 EARLY", x.order(-1), 3);
        due.is("15 EARLY of the best", x.order(-2), 3);
        rowIs("only SHOW", x, 0, 1, 2);
    }

    private static void wordsAllGone() {
        BookShows x = new BookShows();
        ones(x, 3);
        Due.shows(x, "+a0b0", 2);
        Due.shows(x, "5", 5);
        Due.shows(x, "c0", 1);
        Due.shows(x, "?1b0+a0c0", 7);
        x.version();
        for (int word = 0; word < 8; word++) {
            Due.word(x, word, "");
        }
        due.is("12 what it comes to", x.held(0, 1, 0), -10);
        due.is("12 the one without WORDS HOLDS", x.held(1, 1, 1), 1);
        due.is("12 USED, up to the first that is GONE", x.held(0, 1, 2), 1);
        due.is("13 STALE", x.stale(0), 1);
        due.is("13 the one without WORDS is not", x.stale(1), BookShows.NONE);
        due.is("14 BLAME", x.blame(0, 1), 0b11);
        due.is("16 COVER", x.cover(1), 0b101);
        due.is("16 COVER in VERSION 0", x.cover(0), 0b101);
        due.is("17 APART", x.apart(), 1);
        due.is("18 no SLIPS", x.slip(1, -1), 0);
        due.is("18 not a first one", x.slip(1, 0), BookShows.NONE);
        due.is("19 no SLIP", x.noticed(1, 0), BookShows.OUTSIDE);
        due.is("20 none UNSHOWN", x.unshown(1, -1), 0);
        due.is("20 not a first one", x.unshown(1, 0), BookShows.NONE);
        due.is("21 NOTICE", x.notice(1), 0);
        due.is("22 no number", x.mend(0, 1), BookShows.NO);
        due.is("22 a number", x.mend(1, 1), 5);
        due.is("23 NONE", x.instead(0, 1), BookShows.NONE);
    }

    // EARLY of a row of PAGES: of each PAGE that SHOWS: NAMED WORDS that no PAGE ahead of it TELLS, in all

    private static void earlyOfNamed() {
        BookShows x = new BookShows();
        Due.shows(x, "aaa1", 0);
        due.is("15 a WORD named three times is early once", x.order(-1), 1);
        Due.shows(x, "a1", 0);
        due.is("15 once on each PAGE", x.order(-1), 2);
        x.tells(0);
        due.is("15 told behind them", x.order(-1), 2);
        Due.shows(x, "a1", 0);
        due.is("15 told ahead", x.order(-1), 2);
        Due.shows(x, "?0a1h1", 0);
        due.is("15 NAMED, though not USED", x.order(-1), 3);
        x.tells(7);
        x.tells(7);
        Due.shows(x, "+a1h1", 0);
        due.is("15 told twice", x.order(-1), 3);
        due.is("15 at best none", x.order(-2), 0);
        BookShows y = new BookShows();
        Due.shows(y, "?+a1b1+cd1e1?f1g1h1", 0);
        due.is("15 all eight", y.order(-1), 8);
        due.is("15 all eight at best", y.order(-2), 8);
        y.tells(3);
        due.is("15 as they stand", y.order(-1), 8);
        due.is("15 seven at best", y.order(-2), 7);
        BookShows z = new BookShows();
        for (int page = 0; page < 12; page++) {
            Due.shows(z, "?+a1b1+cd1e1?f1g1h1", 0);
        }
        due.is("15 eight on each of twelve", z.order(-1), 96);
        due.is("15 and at best", z.order(-2), 96);
    }

    // (what = -1), of the best ORDER (-2), the i-th PAGE of that (what = i); NONE

    private static void orderAsked() {
        BookShows x = new BookShows();
        Due.shows(x, "a1", 0);
        due.is("15 one PAGE", x.order(0), 0);
        due.is("15 not a second", x.order(1), BookShows.NONE);
        due.is("15 what = -3", x.order(-3), BookShows.NONE);
        x.tells(0);
        rowIs("told first", x, 1, 0);
        due.is("15 as they stand", x.order(-1), 1);
        due.is("15 at best", x.order(-2), 0);
        due.is("11 PAGES stay as they stand", x.page(1, 0), 0);
    }

    // ORDER: the row of all PAGES of the least EARLY, of several the first by numbers

    private static void orderFirstByNumbers() {
        BookShows x = new BookShows();
        Due.shows(x, "h1", 0);
        Due.shows(x, "+a1b1", 0);
        Due.shows(x, "b1", 0);
        x.tells(1);
        Due.shows(x, "a1", 0);
        x.tells(1);
        x.tells(0);
        x.tells(2);
        due.is("15 EARLY", x.order(-1), 5);
        due.is("15 EARLY of the best", x.order(-2), 1);
        rowIs("one that none tells is early anywhere", x, 0, 3, 2, 5, 6, 1, 4, 7);
        BookShows y = new BookShows();
        y.tells(5);
        Due.shows(y, "f1", 0);
        y.tells(5);
        Due.shows(y, "g1", 0);
        Due.shows(y, "1", 0);
        y.tells(6);
        rowIs("told again behind", y, 0, 1, 2, 4, 5, 3);
        firstAndLastTell();
        BookShows z = new BookShows();
        for (int word = 0; word < 4; word++) {
            Due.shows(z, (char) ('a' + word) + "1", 0);
        }
        for (int word = 3; word >= 0; word--) {
            z.tells(word);
        }
        rowIs("each as soon as it is told", z, 4, 3, 5, 2, 6, 1, 7, 0);
    }

    private static void firstAndLastTell() {
        BookShows x = new BookShows();
        x.tells(0);
        for (int page = 1; page < 11; page++) {
            Due.shows(x, page % 2 == 1 ? "a1" : "h1", 0);
        }
        x.tells(7);
        due.is("15 PAGE 0 TELLS the one, PAGE 11 the other", x.order(-1), 5);
        due.is("15 both are told at best", x.order(-2), 0);
        rowIs("PAGE 11 as late as can be", x, 0, 1, 3, 5, 7, 9, 11, 2, 4, 6, 8, 10);
    }

    // COVER in a VERSION: the fewest EXAMPLES that together have USED all WORDS that any of them did there

    private static void coverOfAllThatAnyUsed() {
        BookShows x = new BookShows();
        ones(x, 8);
        Due.shows(x, "?0a1+b1c1", 0);
        due.is("16 USED, not NAMED", x.cover(0), 1);
        Due.shows(x, "a1", 9);
        due.is("16 of two alike the least", x.cover(0), 1);
        Due.shows(x, "7", 7);
        due.is("16 one that uses none", x.cover(0), 1);
        Due.shows(x, "b1", 1);
        due.is("16 two", x.cover(0), 0b1001);
        Due.shows(x, "+a1b1", 0);
        due.is("16 one, though it stands behind", x.cover(0), 0b10000);
        x.version();
        Due.word(x, 0, "");
        due.is("16 in VERSION 1 it ends with a", x.cover(1), 0b1001);
        due.is("16 in VERSION 0 still", x.cover(0), 0b10000);
        BookShows y = new BookShows();
        ones(y, 8);
        for (int word = 0; word < 8; word++) {
            y.tells(word % 4);
            if (word < 4) {
                Due.shows(y, (char) ('a' + word) + "0", 5);
            }
        }
        due.is("16 four of twelve", y.cover(0), 0b10101010);
        BookShows z = new BookShows();
        for (int page = 0; page < 12; page++) {
            Due.shows(z, (char) ('a' + Math.max(0, page - 4)) + "0", 5);
        }
        due.is("16 eight GONE ones, each by one alone", z.cover(0), 0b111111100001);
    }

    // Of several sets the least as bits (of PAGES)

    private static void coverLeastAsBits() {
        BookShows x = new BookShows();
        ones(x, 4);
        Due.shows(x, "+a0b0", 0);
        Due.shows(x, "+a0c0", 0);
        Due.shows(x, "+b0d0", 0);
        Due.shows(x, "+c0d0", 0);
        due.is("16 1 and 2 are less as bits than 0 and 3", x.cover(0), 0b0110);
    }

    // APART: any two VERSIONS that some EXAMPLE tells apart (it HOLDS in just one of them)

    private static void apartTellsVersionsApart() {
        BookShows x = new BookShows();
        Due.shows(x, "a0", 1);
        Due.shows(x, "+1a0", 1);
        x.version();
        due.is("17 both come to GONE", x.apart(), 0);
        Due.word(x, 0, "5");
        due.is("17 it comes to something else, but HOLDS in neither", x.apart(), 0);
        Due.word(x, 0, "0");
        due.is("17 it HOLDS in just one", x.apart(), 0b10);
        x.version();
        Due.word(x, 0, "1");
        due.is("17 each in one", x.apart(), 0b11);
        x.version();
        due.is("17 two VERSIONS alike", x.apart(), 0b11);
        x.mend(1, 3);
        due.is("17 one HOLDS in 2 and 3, as the other", x.apart(), 1);
        BookShows y = new BookShows();
        Due.shows(y, "a0", 1);
        Due.word(y, 0, "1");
        due.is("17 one VERSION alone", y.apart(), 0);
    }

    /** EXAMPLES of one WORD each; which HOLD in VERSION 0, 1, .., as bits. */
    private static BookShows holdingIn(int pages, int... holding) {
        BookShows x = new BookShows();
        for (int page = 0; page < pages; page++) {
            Due.shows(x, (char) ('a' + page) + "0", 1);
        }
        for (int version = 0; version < holding.length; version++) {
            if (version > 0) {
                x.version();
            }
            for (int page = 0; page < pages; page++) {
                Due.word(x, page, (holding[version] >> page & 1) == 1 ? "1" : "0");
            }
        }
        return x;
    }

    private static void apartLeastAsBits() {
        due.is("17 1, 2, 3 are less as bits than 0, 3, 4",
            holdingIn(5, 0b10111, 0b01100, 0b11110, 0b00100, 0b10000).apart(), 0b01110);
        due.is("17 either of two", holdingIn(2, 0b00, 0b11).apart(), 0b01);
        due.is("17 one of each two", holdingIn(4, 0b0000, 0b0011, 0b1100).apart(), 0b0101);
        due.is("17 fewer, though not less as bits", holdingIn(3, 0b000, 0b101, 0b110, 0b001).apart(), 0b101);
    }

    private static void apartOfSix() {
        due.is("17 six VERSIONS by five EXAMPLES", holdingIn(5, 0, 1, 2, 4, 8, 16).apart(), 0b11111);
        due.is("17 six VERSIONS by three", holdingIn(5, 0, 1, 2, 3, 4, 5).apart(), 0b00111);
        due.is("17 the last two alone differ", holdingIn(2, 1, 1, 1, 1, 1, 3).apart(), 0b10);
        due.is("17 the first two alone differ", holdingIn(2, 1, 3, 3, 3, 3, 3).apart(), 0b10);
    }

    // SLIPS of a VERSION: how many (i = -1), 100 times the WORD of the i-th, and its place; numbered by WORDS, then places; NONE

    private static void slipsNumbered() {
        BookShows x = new BookShows();
        Due.word(x, 7, "+x1");
        Due.word(x, 0, "?3b*4m5-67cx");
        int[] codes = {1, 3, 4, 5, 6, 7, 8, 9, 11, 700, 701, 702};
        due.is("18 how many", x.slip(0, -1), codes.length);
        for (int i = 0; i < codes.length; i++) {
            due.is("18 slip(0, " + i + ")", x.slip(0, i), codes[i]);
        }
        for (int i : new int[] {Integer.MIN_VALUE, -2, codes.length, codes.length + 1, Integer.MAX_VALUE}) {
            due.is("18 slip(0, " + i + ")", x.slip(0, i), BookShows.NONE);
        }
        for (int version = 1; version < 6; version++) {
            x.version();
            Due.word(x, 7, "1");
            due.is("18 in VERSION " + version, x.slip(version, -1), codes.length - 2);
            due.is("18 the last there", x.slip(version, codes.length - 3), 700);
        }
        due.is("18 in VERSION 0", x.slip(0, -1), codes.length);
        due.is("18 in VERSION 6", x.slip(6, -1), BookShows.UNKNOWN);
    }

    /** Forty signs of which all but one are SLIPS, in all WORDS: no VERSION has more. */
    private static void mostSlips() {
        BookShows x = new BookShows();
        String text = "a+" + tree(4) + "+" + "+11" + "+11";
        due.is("forty signs", text.length(), 40);
        for (int word = 0; word < 8; word++) {
            due.is("6 forty signs", Due.word(x, word, text), 40);
        }
        due.is("18 how many", x.slip(0, -1), 312);
        due.is("18 the first", x.slip(0, 0), 1);
        due.is("18 the last", x.slip(0, 311), 739);
        due.is("18 none behind it", x.slip(0, 312), BookShows.NONE);
        Due.shows(x, "5", 5);
        due.is("19 the last", x.noticed(0, 311), 0);
        due.is("19 none behind it", x.noticed(0, 312), BookShows.OUTSIDE);
        due.is("20 how many", x.unshown(0, -1), 312);
        due.is("20 the last", x.unshown(0, 311), 311);
        due.is("20 none behind it", x.unshown(0, 312), BookShows.NONE);
    }

    /** Sums of sums, so many deep. */
    private static String tree(int deep) {
        return deep == 0 ? "1" : "+" + tree(deep - 1) + tree(deep - 1);
    }

    // a digit d d and 1 (9: 0)

    private static void slipOfEachDigit() {
        for (int digit = 0; digit <= 9; digit++) {
            int slipped = digit == 9 ? 0 : digit + 1;
            slipIs(String.valueOf(digit), 0, slipped);
            slipIs("*1" + digit, 2, slipped);
        }
    }

    /** That the WORD a, given 5, comes to this with one SLIP: of EXAMPLES that ask for that very number just one notices. */
    private static void slipIs(String text, int slip, int slipped) {
        BookShows x = new BookShows();
        Due.word(x, 0, text);
        int now = Due.comes(x, "a5", 0, 0);
        Due.shows(x, "a5", now);
        String number = slipped < 10 ? String.valueOf(slipped) : "-0" + (1000 - slipped);
        Due.shows(x, "?-a5" + number + "17", now == slipped ? 1 : 7);
        Due.shows(x, "?-a5" + number + "77", 7);
        due.is("19 " + text + " HOLDS", x.held(1, 0, 1), 1);
        due.is("19 sign " + slip + " of " + text + " slips", x.noticed(0, slip), now == slipped ? 0 : 0b011);
        due.is("19 the text stays", Due.written(x, 0, 0).equals(text) ? 1 : 0, 1);
        due.is("19 what it comes to stays", x.held(0, 0, 0), now);
    }

    // + and - become the other one, * and m become +, x becomes 0

    private static void slipOfOtherSigns() {
        slipIs("+x3", 0, 2);
        slipIs("-x3", 0, 8);
        slipIs("*x3", 0, 8);
        slipIs("mx3", 0, 8);
        slipIs("x", 0, 0);
        slipIs("+x3", 1, 3);
        slipIs("+x3", 2, 9);
        slipIs("-3x", 0, 8);
        slipIs("-3x", 2, 3);
        slipIs("-0x", 1, 996);
        slipIs("mx9", 1, 0);
        slipIs("+1-x3", 0, 999);
        slipIs("+1-x3", 2, 9);
        slipIs("+x0", 0, 5);
    }

    // each sign but WORDS' letters and ?

    private static void slipBesideLettersAndQuestions() {
        BookShows x = new BookShows();
        Due.word(x, 0, "?bcd1efg1ha1");
        due.is("18 three digits", x.slip(0, -1), 3);
        due.is("18 the first", x.slip(0, 0), 4);
        due.is("18 the second", x.slip(0, 1), 8);
        due.is("18 the third", x.slip(0, 2), 11);
    }

    // NOTICED by an EXAMPLE that HOLDS in that VERSION: it does not HOLD with that SLIP

    private static void noticedByThoseThatHold() {
        BookShows x = new BookShows();
        Due.word(x, 0, "4");
        Due.shows(x, "a0", 4);
        Due.shows(x, "a0", 5);
        Due.shows(x, "a0", 6);
        x.tells(0);
        Due.shows(x, "*0a0", 0);
        Due.shows(x, "9", 9);
        Due.shows(x, "ma03", 3);
        due.is("19 those that HOLD and do not with it", x.noticed(0, 0), 1);
        x.mend(1, 0);
        due.is("19 one more HOLDS", x.noticed(0, 0), 0b11);
        x.version();
        Due.word(x, 0, "5");
        due.is("19 in VERSION 1 none", x.noticed(1, 0), 0);
        due.is("19 in VERSION 0 still", x.noticed(0, 0), 0b11);
        x.mend(2, 1);
        due.is("19 mended to that of VERSION 1", x.noticed(1, 0), 0b100);
        due.is("19 there is no second", x.noticed(1, 1), BookShows.OUTSIDE);
        due.is("19 nor one ahead", x.noticed(1, -1), BookShows.OUTSIDE);
    }

    private static void noticedByGoneAndEndless() {
        BookShows x = new BookShows();
        Due.word(x, 0, "?0+12h1");
        Due.word(x, 1, "?x7b-x1");
        Due.shows(x, "a0", 3);
        Due.shows(x, "b3", 7);
        due.is("18 SLIPS", x.slip(0, -1), 10);
        due.is("19 comes to GONE with it", x.noticed(0, 0), 1);
        due.is("19 never looked at", x.noticed(0, 4), 0);
        due.is("19 x to 0", x.noticed(0, 5), 0);
        due.is("19 another number", x.noticed(0, 6), 0b10);
        due.is("19 - to +: ENDLESS with it", x.noticed(0, 7), 0b10);
        due.is("19 x to 0: ENDLESS with it", x.noticed(0, 8), 0b10);
        due.is("19 by 2 from 3: ENDLESS with it", x.noticed(0, 9), 0b10);
        due.is("20 UNSHOWN", x.unshown(0, -1), 2);
    }

    // UNSHOWN: how many (i = -1), the i-th SLIP; NONE

    private static void unshownAsked() {
        BookShows x = new BookShows();
        ones(x, 6);
        Due.shows(x, "+b0e0", 2);
        int[] left = {0, 2, 3, 5};
        due.is("20 how many", x.unshown(0, -1), left.length);
        for (int i = 0; i < left.length; i++) {
            due.is("20 unshown(0, " + i + ")", x.unshown(0, i), left[i]);
        }
        for (int i : new int[] {Integer.MIN_VALUE, -3, -2, left.length, Integer.MAX_VALUE}) {
            due.is("20 unshown(0, " + i + ")", x.unshown(0, i), BookShows.NONE);
        }
        x.version();
        Due.word(x, 1, "2");
        due.is("20 in VERSION 1 it does not HOLD", x.unshown(1, -1), 6);
        due.is("20 in VERSION 0 it does", x.unshown(0, -1), left.length);
    }

    // NOTICE: the fewest EXAMPLES that together notice all that any does; of several the least as bits

    private static void noticeLeastAsBits() {
        BookShows x = new BookShows();
        ones(x, 5);
        Due.shows(x, "+a0b0", 2);
        Due.shows(x, "+a0c0", 2);
        Due.shows(x, "+b0d0", 2);
        Due.shows(x, "+c0d0", 2);
        due.is("21 1 and 2 are less as bits than 0 and 3", x.notice(0), 0b0110);
        Due.shows(x, "++a0b0+c0d0", 5);
        due.is("21 it does not HOLD", x.notice(0), 0b0110);
        x.mend(4, 0);
        due.is("21 it HOLDS", x.notice(0), 0b10000);
        Due.shows(x, "*0e0", 0);
        due.is("21 what none notices is not asked for", x.notice(0), 0b10000);
        Due.shows(x, "*2e0", 2);
        due.is("21 what one notices is", x.notice(0), 0b1010000);
        x.version();
        due.is("21 in VERSION 1, too", x.notice(1), 0b1010000);
        Due.word(x, 4, "2");
        due.is("21 changed there", x.notice(1), 0b10000);
        due.is("21 in VERSION 0 still", x.notice(0), 0b1010000);
    }

    private static void noticeOfTwelve() {
        BookShows x = new BookShows();
        Due.word(x, 0, "+*x8+9+9+94");
        for (int page = 0; page < 12; page++) {
            Due.shows(x, "a" + page % 10, 0);
            x.mend(page, 0);
        }
        due.is("18 SLIPS", x.slip(0, -1), 11);
        due.is("21 one that notices all", x.notice(0), 0b10);
        BookShows y = new BookShows();
        ones(y, 8);
        for (int page = 0; page < 12; page++) {
            Due.shows(y, (char) ('a' + Math.max(0, page - 4)) + "0", 1);
        }
        due.is("21 eight that notice one each", y.notice(0), 0b111111100001);
    }
}
