/** Promises 22 to 26: mended EXAMPLES, IMAGES, told. */
public final class MendingTest {
    private static final Due due = new Due();

    public static void main(String[] args) {
        mend();
        instead();
        insteadRefused();
        image();
        imageKeepsAll();
        restoreToFewer();
        told();
        due.end();
    }

    private static void mend() {
        BookShows x = new BookShows();
        x.tells(0);
        Due.word(x, 0, "+x1");
        Due.shows(x, "a1", 5);
        Due.shows(x, "b1", 6);
        Due.shows(x, "d1", 7);
        Due.word(x, 3, "dx");
        x.version();
        Due.word(x, 0, "+x2");
        Due.say(x, "+1");
        due.is("22 which it was", x.mend(1, 0), 5);
        due.is("22 DUE", x.page(1, 1), 2);
        due.is("22 it HOLDS", x.held(1, 0, 1), 1);
        due.is("22 in another VERSION", x.mend(1, 1), 2);
        due.is("22 DUE by that", x.page(1, 1), 3);
        due.is("22 nothing to mend", x.mend(1, 1), 3);
        due.is("22 the PAD stays", x.told(0), 2);
        due.refused("22 GONE", x, () -> x.mend(2, 0), BookShows.NO);
        due.refused("22 ENDLESS", x, () -> x.mend(3, 0), BookShows.NO);
        for (int no : new int[] {0, 4, -1, Integer.MIN_VALUE, Integer.MAX_VALUE}) {
            due.refused("22 page " + no, x, () -> x.mend(no, 0), BookShows.UNKNOWN);
        }
        for (int no : new int[] {2, -1, Integer.MIN_VALUE, Integer.MAX_VALUE}) {
            due.refused("22 version " + no, x, () -> x.mend(2, no), BookShows.UNKNOWN);
        }
    }

    private static void instead() {
        BookShows x = new BookShows();
        Due.word(x, 0, "+x1");
        Due.word(x, 1, "+x2");
        Due.word(x, 5, "+x3");
        Due.word(x, 7, "+x3");
        Due.shows(x, "+1a4", 8);
        due.is("23 the first such WORD", x.instead(0, 0), 25);
        Due.shows(x, "+a1a1", 5);
        due.is("23 the first place", x.instead(1, 0), 11);
        Due.shows(x, "+a1a1", 4);
        due.is("23 it HOLDS, and another does not", x.instead(2, 0), BookShows.NONE);
        Due.shows(x, "f1", 4);
        due.is("23 it HOLDS, and so does another", x.instead(3, 0), 7);
        Due.shows(x, "+g1b1", 5);
        due.is("23 the GONE one", x.instead(4, 0), 10);
        Due.shows(x, "+12", 9);
        due.is("23 no WORD in it", x.instead(5, 0), BookShows.NONE);
        Due.shows(x, "a*1*1*1*1a1", 5);
        due.is("23 a first place far in", x.instead(6, 0), 5);
        Due.shows(x, "?0a1b1", 4);
        due.is("23 one that is looked at", x.instead(7, 0), 25);
        Due.shows(x, "?0c1b1", 3);
        due.is("23 the one that is looked at alone", x.instead(8, 0), 21);
        due.is("23 texts stay", x.page(8, 2), 0b110);
        due.is("23 what it comes to stays", x.held(8, 0, 0), -10);
        x.version();
        Due.word(x, 2, "+x3");
        due.is("23 in VERSION 1", x.instead(0, 1), 22);
        due.is("23 in VERSION 0", x.instead(0, 0), 25);
        Due.shows(x, "+*11+*11+*11+*11+*11a1", 9);
        due.is("23 place 20", x.instead(9, 1), 202);
    }

    private static void insteadRefused() {
        BookShows x = new BookShows();
        x.tells(0);
        Due.shows(x, "a1", 0);
        for (int no : new int[] {0, 2, -1, Integer.MIN_VALUE, Integer.MAX_VALUE}) {
            due.refused("23 page " + no, x, () -> x.instead(no, 0), BookShows.UNKNOWN);
        }
        for (int no : new int[] {1, -1, Integer.MIN_VALUE, Integer.MAX_VALUE}) {
            due.refused("23 version " + no, x, () -> x.instead(1, no), BookShows.UNKNOWN);
        }
        due.is("23 all GONE", x.instead(1, 0), BookShows.NONE);
    }

    private static void image() {
        BookShows x = new BookShows();
        for (int no : new int[] {2, -1, Integer.MIN_VALUE, Integer.MAX_VALUE}) {
            due.refused("24 image(" + no + ")", x, () -> x.image(no), BookShows.OUTSIDE);
            due.refused("25 restore(" + no + ")", x, () -> x.restore(no), BookShows.OUTSIDE);
        }
        due.refused("25 restore(0)", x, () -> x.restore(0), BookShows.STATE);
        due.is("24 image(1)", x.image(1), 1);
        due.refused("25 restore(0) still", x, () -> x.restore(0), BookShows.STATE);
        x.tells(4);
        due.is("24 image(0)", x.image(0), 1);
        x.tells(5);
        due.is("25 restore(1)", x.restore(1), 1);
        due.is("25 no PAGES", x.told(2), 0);
        due.is("25 restore(0)", x.restore(0), 1);
        due.is("25 one PAGE", x.told(2), 1);
        x.tells(6);
        due.is("24 kept anew", x.image(0), 1);
        due.is("25 restore(1) again", x.restore(1), 1);
        due.is("25 restore(0) again", x.restore(0), 1);
        due.is("25 two PAGES", x.told(2), 2);
        due.is("25 the second", x.page(1, 0), 6);
    }

    private static void imageKeepsAll() {
        BookShows x = new BookShows();
        Due.word(x, 0, "+x1");
        x.version();
        Due.word(x, 1, "*x2");
        Due.shows(x, "a1", 2);
        x.tells(1);
        Due.shows(x, "b4", 9);
        String before = Due.stateOf(x);
        x.image(0);
        Due.word(x, 0, "3");
        x.version();
        Due.word(x, 1, "");
        x.mend(0, 1);
        x.mend(2, 1);
        Due.shows(x, "9", 9);
        Due.say(x, "+12");
        x.restore(0);
        due.is("25 the PAD stays", x.told(0), 3);
        x.wipe();
        due.is("25 all is as it was", Due.stateOf(x).equals(before) ? 1 : 0, 1);
        x.mend(2, 1);
        Due.word(x, 0, "4");
        x.restore(0);
        due.is("25 as it was once more", Due.stateOf(x).equals(before) ? 1 : 0, 1);
        due.is("25 stale", x.stale(0), BookShows.NONE);
        due.is("25 held", x.held(0, 1, 1), 1);
    }

    private static void restoreToFewer() {
        BookShows x = new BookShows();
        Due.word(x, 0, "1");
        x.image(1);
        x.version();
        Due.word(x, 0, "2");
        Due.shows(x, "a0", 2);
        due.is("25 ahead of it", x.held(0, 1, 0), 2);
        due.is("25 notice ahead of it", x.notice(1), 1);
        x.restore(1);
        due.is("25 no such VERSION", x.written(1, 0, -1), BookShows.UNKNOWN);
        due.is("25 no such PAGE", x.page(0, 0), BookShows.UNKNOWN);
        due.is("25 a new VERSION", x.version(), 1);
        due.is("25 as the last one", x.written(1, 0, 0), '1');
        Due.shows(x, "+1a0", 2);
        due.is("25 behind it", x.held(0, 1, 0), 2);
        Due.shows(x, "a0", 2);
        due.is("25 another EXAMPLE", x.held(1, 1, 0), 1);
        due.is("25 notice behind it", x.notice(1), 1);
        BookShows y = new BookShows();
        y.image(0);
        y.tells(3);
        Due.shows(y, "a1", 4);
        String before = Due.stateOf(y);
        y.image(1);
        y.restore(0);
        Due.shows(y, "+12", 5);
        y.tells(6);
        y.restore(1);
        due.is("25 PAGES that others stood in the place of", Due.stateOf(y).equals(before) ? 1 : 0, 1);
    }

    private static void told() {
        BookShows x = new BookShows();
        Due.word(x, 0, "1");
        x.version();
        x.tells(0);
        Due.shows(x, "a0", 2);
        x.tells(1);
        Due.shows(x, "a0", 2);
        Due.say(x, "?1");
        due.is("26 signs", x.told(0), 2);
        due.is("26 VERSIONS", x.told(1), 2);
        due.is("26 PAGES", x.told(2), 4);
        due.is("26 PAGES that SHOW", x.told(3), 0b1010);
        BookShows y = new BookShows();
        Due.shows(y, "1", 1);
        due.is("26 PAGE 0 SHOWS", y.told(3), 1);
        for (int no : new int[] {4, -1, Integer.MIN_VALUE, Integer.MAX_VALUE}) {
            due.refused("26 told(" + no + ")", x, () -> x.told(no), BookShows.OUTSIDE);
        }
    }
}
