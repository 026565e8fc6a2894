/**
 * Part 4 of the document's terms and promises 22 to 26, sentence by sentence where one names an edge. Above each
 * method stands the sentence that it is for.
 */
public final class MendEdgesTest {
    private static final Due due = new Due();

    public static void main(String[] args) {
        mendedByItsOutcome();
        mendedToNoNumber();
        insteadOfAnother();
        insteadFirstPlace();
        insteadFirstWord();
        insteadOfGoneAndEndless();
        insteadInEachVersion();
        imageNotKept();
        twoImages();
        thePadOverImageAndRestore();
        imageOfANewObject();
        imageOfAFullBook();
        asTheyWereWhenKept();
        restoredIsAskedAnew();
        told();
        toldBehindEachCall();
        due.end();
    }

    // An EXAMPLE's DUE becomes its outcome in a VERSION: which it was

    private static void mendedByItsOutcome() {
        BookShows x = new BookShows();
        Due.word(x, 0, "0");
        Due.shows(x, "a1", 5);
        Due.shows(x, "a1", 7);
        x.version();
        Due.word(x, 0, "-0x");
        due.is("22 to 0", x.mend(0, 0), 5);
        due.is("22 DUE is 0", x.page(0, 1), 0);
        due.is("22 to 999", x.mend(0, 1), 0);
        due.is("22 DUE is 999", x.page(0, 1), 999);
        due.is("22 it HOLDS already", x.mend(0, 1), 999);
        due.is("22 DUE stays", x.page(0, 1), 999);
        due.is("22 it HOLDS in VERSION 1", x.held(0, 1, 1), 1);
        due.is("22 no more in VERSION 0", x.held(0, 0, 1), 0);
        due.is("22 another one stays", x.page(1, 1), 7);
        due.is("22 the text stays", x.page(0, 3), 2);
        due.is("13 it is not STALE then", x.stale(0), BookShows.NONE);
        x.mend(0, 0);
        due.is("13 it is STALE then", x.stale(0), 1);
        due.is("17 told apart then", x.apart(), 1);
        due.is("14 BLAME then", x.blame(0, 1), 1);
    }

    // NO: it comes to no number

    private static void mendedToNoNumber() {
        BookShows x = new BookShows();
        Due.word(x, 0, "ax");
        Due.shows(x, "h1", 5);
        Due.shows(x, "a1", 6);
        Due.shows(x, "?01h1", 7);
        due.refused("22 GONE", x, () -> x.mend(0, 0), BookShows.NO);
        due.refused("22 ENDLESS", x, () -> x.mend(1, 0), BookShows.NO);
        due.is("22 GONE is not looked at", x.mend(2, 0), 7);
        x.version();
        Due.word(x, 0, "3");
        Due.word(x, 7, "4");
        due.is("22 a number in VERSION 1", x.mend(0, 1), 5);
        due.is("22 and here", x.mend(1, 1), 6);
        due.refused("22 but not in VERSION 0", x, () -> x.mend(0, 0), BookShows.NO);
        due.is("11 DUE", x.page(0, 1), 4);
    }

    // by a WORD: .. another WORD in the place of the one there makes it HOLD

    private static void insteadOfAnother() {
        BookShows x = new BookShows();
        Due.word(x, 0, "+x1");
        Due.word(x, 1, "+x2");
        Due.shows(x, "a5", 7);
        Due.shows(x, "b5", 7);
        Due.shows(x, "5", 7);
        Due.shows(x, "+59", 7);
        Due.shows(x, "aa5", 9);
        Due.shows(x, "aa5", 8);
        due.is("23 b for a", x.instead(0, 0), 1);
        due.is("23 it HOLDS, no other makes it", x.instead(1, 0), BookShows.NONE);
        due.is("23 no WORDS, one sign", x.instead(2, 0), BookShows.NONE);
        due.is("23 no WORDS", x.instead(3, 0), BookShows.NONE);
        due.is("23 one place alone is not enough", x.instead(4, 0), BookShows.NONE);
        due.is("23 one place is", x.instead(5, 0), 1);
        due.is("11 the text stays", x.page(0, 2), 1);
        due.is("12 what it comes to stays", x.held(0, 0, 0), 6);
        Due.word(x, 7, "+x2");
        due.is("23 it HOLDS, and another makes it", x.instead(1, 0), 7);
    }

    // the first place in its text; 10 times the place

    private static void insteadFirstPlace() {
        BookShows x = new BookShows();
        Due.word(x, 0, "x");
        Due.word(x, 1, "+x1");
        Due.shows(x, "+a1a1", 3);
        Due.shows(x, "+?0a1a1a1", 3);
        Due.shows(x, "?1a1a1", 2);
        Due.shows(x, "+?" + "?+12+12+12".repeat(3) + "++11+1a1", 8);
        due.is("23 of two places the first", x.instead(0, 0), 11);
        due.is("23 not one that is not looked at", x.instead(1, 0), 31);
        due.is("23 the one that is looked at", x.instead(2, 0), 41);
        due.is("11 forty signs", x.page(3, 3), 40);
        due.is("23 the last place but one", x.instead(3, 0), 381);
        x.wipe();
        Due.word(x, 1, "");
        Due.word(x, 7, "+x1");
        due.is("23 the last place by h", x.instead(3, 0), 387);
        Due.shows(x, "?a0h1a1", 3);
        due.is("23 no place helps", x.instead(4, 0), BookShows.NONE);
        Due.shows(x, "?a0h1a1", 1);
        due.is("23 that makes it look at the other one", x.instead(5, 0), 17);
    }

    // and the first such WORD

    private static void insteadFirstWord() {
        BookShows x = new BookShows();
        for (int word = 0; word < 8; word++) {
            Due.word(x, word, word % 2 == 0 ? "2" : "3");
        }
        Due.shows(x, "a0", 2);
        Due.shows(x, "a0", 3);
        Due.shows(x, "h0", 2);
        Due.shows(x, "h0", 3);
        Due.shows(x, "c0", 2);
        Due.shows(x, "c0", 4);
        int[] want = {2, 1, 0, 1, 0, BookShows.NONE};
        for (int page = 0; page < want.length; page++) {
            due.is("23 the first WORD for PAGE " + page, x.instead(page, 0), want[page]);
        }
        BookShows y = new BookShows();
        Due.word(y, 7, "2");
        Due.shows(y, "a0", 2);
        due.is("23 the last WORD alone", y.instead(0, 0), 7);
    }

    private static void insteadOfGoneAndEndless() {
        BookShows x = new BookShows();
        Due.shows(x, "a1", 2);
        Due.shows(x, "+c1h1", 4);
        due.is("23 all GONE", x.instead(0, 0), BookShows.NONE);
        Due.word(x, 2, "cx");
        Due.word(x, 4, "+x1");
        due.is("23 one that is there for one that is GONE", x.instead(0, 0), 4);
        due.is("23 ENDLESS and GONE: one is not enough", x.instead(1, 0), BookShows.NONE);
        Due.word(x, 7, "x");
        due.is("23 the GONE one is not chosen, nor the ENDLESS one", x.instead(1, 0), BookShows.NONE);
        x.mend(1, 0);
        Due.shows(x, "+c1h1", 3);
        due.is("23 in the place of the ENDLESS one", x.instead(2, 0), 14);
    }

    private static void insteadInEachVersion() {
        BookShows x = new BookShows();
        Due.shows(x, "a1", 2);
        for (int version = 0; version < 6; version++) {
            if (version > 0) {
                x.version();
            }
            Due.word(x, version + 1, "2");
            Due.word(x, version, "");
        }
        for (int version = 0; version < 6; version++) {
            due.is("23 in VERSION " + version, x.instead(0, version), version + 1);
        }
        due.is("23 in VERSION 6", x.instead(0, 6), BookShows.UNKNOWN);
    }

    // STATE: it was not (kept)

    private static void imageNotKept() {
        for (int n = 0; n < 2; n++) {
            BookShows x = new BookShows();
            int other = 1 - n;
            x.tells(3);
            int not = n;
            due.refused("25 restore(" + n + "), none kept", x, () -> x.restore(not), BookShows.STATE);
            due.is("24 image(" + other + ")", x.image(other), 1);
            due.refused("25 restore(" + n + "), the other one kept", x, () -> x.restore(not), BookShows.STATE);
            due.is("25 restore(" + other + ")", x.restore(other), 1);
            due.refused("25 restore(" + n + "), the other one restored", x, () -> x.restore(not), BookShows.STATE);
            due.is("24 image(" + n + ")", x.image(n), 1);
            due.is("25 restore(" + n + ")", x.restore(n), 1);
            due.is("25 still there", x.told(2), 1);
        }
    }

    // kept in an IMAGE (0, 1): 1. OUTSIDE

    private static void twoImages() {
        BookShows x = new BookShows();
        x.image(0);
        x.tells(1);
        x.image(1);
        x.tells(2);
        for (int no : new int[] {Integer.MIN_VALUE, -2, -1, 2, 3, Integer.MAX_VALUE}) {
            due.refused("24 image(" + no + ")", x, () -> x.image(no), BookShows.OUTSIDE);
            due.refused("25 restore(" + no + ")", x, () -> x.restore(no), BookShows.OUTSIDE);
        }
        due.is("25 restore(1)", x.restore(1), 1);
        due.is("25 one PAGE", x.told(2), 1);
        due.is("25 restore(0)", x.restore(0), 1);
        due.is("25 none", x.told(2), 0);
        due.is("25 restore(1) again", x.restore(1), 1);
        due.is("25 one PAGE again", x.told(2), 1);
        x.tells(5);
        x.image(1);
        x.restore(0);
        x.restore(1);
        due.is("24 kept anew", x.told(2), 2);
        due.is("24 as it was then", x.page(1, 0), 5);
    }

    // VERSIONS and PAGES are kept (the PAD is not)

    private static void thePadOverImageAndRestore() {
        BookShows x = new BookShows();
        Due.say(x, "+12");
        x.image(0);
        due.is("24 the PAD stays", x.told(0), 3);
        due.is("24 as it was", x.comes(0, 0), 3);
        x.restore(0);
        due.is("25 the PAD stays", x.told(0), 3);
        due.is("25 as it was", x.comes(0, 0), 3);
        x.wipe();
        Due.say(x, "*345");
        x.restore(0);
        due.is("25 the PAD is not that of then", x.told(0), 4);
        due.is("25 with its FAULT", x.fault(), 3);
        x.wipe();
        x.restore(0);
        due.is("25 an empty PAD stays empty", x.told(0), 0);
        due.is("25 with its FAULT, too", x.fault(), 0);
        Due.say(x, "1".repeat(40));
        x.restore(0);
        due.is("25 a full PAD stays full", x.say('1'), BookShows.FULL);
        due.is("25 and goes", x.wipe(), 40);
        Due.say(x, "x");
        x.version();
        x.restore(0);
        due.is("25 the PAD as a WORD's text in the VERSION that is last then", x.word(2), 1);
        due.is("25 there", x.written(0, 2, 0), 'x');
    }

    private static void imageOfANewObject() {
        BookShows x = new BookShows();
        x.image(1);
        Due.word(x, 0, "1");
        Due.shows(x, "a0", 1);
        x.tells(4);
        x.version();
        Due.word(x, 7, "2");
        x.notice(1);
        x.restore(1);
        String now = Due.stateOf(x);
        due.is("25 as a new object", now.equals(Due.stateOf(new BookShows())) ? 1 : 0, 1);
        due.is("25 no SLIPS", x.slip(0, -1), 0);
        due.is("25 VERSION 1 comes again", x.version(), 1);
        due.is("25 with nothing of before", x.written(1, 7, -1), 0);
        due.is("25 PAGE 0 comes again", x.tells(2), 0);
        due.is("25 with nothing of before", x.page(0, 1), BookShows.NONE);
        due.is("25 no WORD is NAMED on it", x.page(0, 2), 0);
        due.is("25 no sign is on it", x.page(0, 3), 0);
    }

    private static void imageOfAFullBook() {
        BookShows x = new BookShows();
        for (int version = 1; version < 6; version++) {
            x.version();
            Due.word(x, version, "+x" + version);
        }
        for (int page = 0; page < 12; page++) {
            if (page % 3 == 0) {
                x.tells(page % 8);
            } else {
                Due.shows(x, (char) ('a' + page % 8) + "1", page);
            }
        }
        String before = Due.stateOf(x);
        x.image(0);
        due.is("24 still FULL", x.version(), BookShows.FULL);
        for (int word = 0; word < 8; word++) {
            Due.word(x, word, "7");
        }
        for (int page = 0; page < 12; page++) {
            x.mend(page, 5);
        }
        due.is("25 restore", x.restore(0), 1);
        due.is("25 all is as it was", Due.stateOf(x).equals(before) ? 1 : 0, 1);
        due.is("25 FULL of VERSIONS", x.version(), BookShows.FULL);
        due.is("25 FULL of PAGES", x.tells(0), BookShows.FULL);
    }

    // They are as they were when it was kept

    private static void asTheyWereWhenKept() {
        BookShows x = new BookShows();
        Due.word(x, 0, "1");
        Due.shows(x, "a0", 5);
        x.image(0);
        x.mend(0, 0);
        x.restore(0);
        due.is("25 DUE", x.page(0, 1), 5);
        due.is("25 it does not HOLD", x.held(0, 0, 1), 0);
        x.mend(0, 0);
        due.is("25 nor is the IMAGE mended", x.restore(0) == 1 ? x.page(0, 1) : -99, 5);
        Due.word(x, 0, "2");
        due.is("25 nor is a WORD rewritten in it", x.restore(0) == 1 ? x.written(0, 0, 0) : -99, '1');
        x.tells(0);
        due.is("25 nor has it a PAGE more", x.restore(0) == 1 ? x.told(2) : -99, 1);
        x.version();
        due.is("25 nor a VERSION more", x.restore(0) == 1 ? x.told(1) : -99, 1);
        x.restore(0);
        x.image(1);
        x.tells(6);
        due.is("24 an IMAGE of what was restored", x.restore(1) == 1 ? x.told(2) : -99, 1);
    }

    private static void restoredIsAskedAnew() {
        BookShows x = new BookShows();
        Due.word(x, 0, "1");
        Due.word(x, 1, "1");
        Due.shows(x, "a0", 1);
        Due.shows(x, "+a0b0", 2);
        x.version();
        Due.word(x, 0, "2");
        int[] before = answers(x);
        x.image(0);
        Due.word(x, 0, "");
        Due.word(x, 1, "+22");
        x.mend(1, 0);
        x.tells(1);
        Due.shows(x, "bb0", 4);
        answers(x);
        x.restore(0);
        int[] behind = answers(x);
        for (int i = 0; i < before.length; i++) {
            due.is("25 answer " + i + " behind restore", behind[i], before[i]);
        }
    }

    private static int[] answers(BookShows x) {
        return new int[] {x.held(0, 1, 0), x.held(1, 1, 0), x.held(1, 1, 2), x.stale(0), x.stale(1), x.blame(0, 1),
            x.blame(1, 1), x.order(-1), x.order(-2), x.order(0), x.order(2), x.cover(0), x.cover(1), x.apart(),
            x.slip(1, -1), x.noticed(0, 0), x.noticed(1, 0), x.unshown(0, -1), x.unshown(1, -1), x.notice(0),
            x.notice(1), x.instead(0, 1), x.instead(1, 1)};
    }

    // 0 signs, 1 VERSIONS, 2 PAGES, 3 PAGES that SHOW, as bits. OUTSIDE

    private static void told() {
        BookShows x = new BookShows();
        int[] first = {0, 1, 0, 0};
        for (int what = 0; what < 4; what++) {
            due.is("26 of a new object, told(" + what + ")", x.told(what), first[what]);
        }
        for (int version = 1; version < 6; version++) {
            x.version();
        }
        for (int page = 0; page < 12; page++) {
            if (page == 0 || page == 5 || page == 11) {
                Due.shows(x, "1", 1);
            } else {
                x.tells(page % 8);
            }
        }
        Due.say(x, "!".repeat(40));
        int[] full = {40, 6, 12, 0b100000100001};
        for (int what = 0; what < 4; what++) {
            due.is("26 of a full one, told(" + what + ")", x.told(what), full[what]);
        }
        for (int no : new int[] {Integer.MIN_VALUE, -2, -1, 4, 5, Integer.MAX_VALUE}) {
            due.refused("26 told(" + no + ")", x, () -> x.told(no), BookShows.OUTSIDE);
        }
    }

    private static void toldBehindEachCall() {
        BookShows x = new BookShows();
        x.say('1');
        due.is("26 a sign", x.told(0), 1);
        x.shows(1);
        due.is("26 the sign went to a PAGE", x.told(0), 0);
        due.is("26 a PAGE", x.told(2), 1);
        due.is("26 that SHOWS", x.told(3), 1);
        x.tells(0);
        due.is("26 two PAGES", x.told(2), 2);
        due.is("26 one of which SHOWS", x.told(3), 1);
        x.image(0);
        Due.shows(x, "1", 1);
        due.is("26 PAGES 0 and 2", x.told(3), 0b101);
        x.restore(0);
        due.is("26 restored", x.told(3), 1);
    }
}
