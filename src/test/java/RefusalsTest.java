import java.util.function.ToIntFunction;

/**
 * Of the document's terms: a refused call answers the first that fits of UNKNOWN, OUTSIDE, STATE, FULL, NO, and
 * changes nothing. Every call, in a new object, in one where all is full, and in some between.
 */
public final class RefusalsTest {
    private static final int LEAST = Integer.MIN_VALUE;
    private static final int MOST = Integer.MAX_VALUE;
    /** Forty signs that ask for one more. */
    private static final String UNFINISHED = "?" + "??123?123?123".repeat(2) + "??123?123?12a";

    private static final Due due = new Due();

    public static void main(String[] args) {
        inANewObject();
        whereAllIsFull();
        withAFaultOnThePad();
        withAnXOnThePad();
        withoutSigns();
        due.end();
    }

    private static void each(Twins twins, String call, int want, int[] numbers, Asks asks) {
        for (int number : numbers) {
            twins.refuse(call.replace("#", String.valueOf(number)), x -> asks.of(x, number), want);
        }
    }

    private interface Asks {
        int of(BookShows x, int number);
    }

    private static int[] beside(int count) {
        return new int[] {LEAST, -1, count, MOST};
    }

    private static void inANewObject() {
        Twins twins = new Twins(due, x -> { });
        each(twins, "2 new: say(#)", BookShows.OUTSIDE, new int[] {LEAST, -1, 0, 32, 127, MOST}, (x, n) -> x.say(n));
        each(twins, "6 new: word(#)", BookShows.UNKNOWN, beside(8), (x, n) -> x.word(n));
        each(twins, "7 new: written(#, 0, -1)", BookShows.UNKNOWN, beside(1), (x, n) -> x.written(n, 0, -1));
        each(twins, "7 new: written(0, #, -1)", BookShows.UNKNOWN, beside(8), (x, n) -> x.written(0, n, -1));
        each(twins, "8 new: comes(#, 0)", BookShows.UNKNOWN, beside(1), (x, n) -> x.comes(n, 0));
        each(twins, "8 new: comes(0, #)", BookShows.OUTSIDE, beside(1000), (x, n) -> x.comes(0, n));
        twins.refuse("8 new: comes(0, 0)", x -> x.comes(0, 0), BookShows.NO);
        each(twins, "9 new: tells(#)", BookShows.UNKNOWN, beside(8), (x, n) -> x.tells(n));
        each(twins, "10 new: shows(#)", BookShows.OUTSIDE, beside(1000), (x, n) -> x.shows(n));
        twins.refuse("10 new: shows(0)", x -> x.shows(0), BookShows.NO);
        noSuchPage(twins, "new", beside(0), 0);
        noSuchVersion(twins, "new", beside(1));
        each(twins, "19 new: noticed(0, #)", BookShows.OUTSIDE, beside(0), (x, n) -> x.noticed(0, n));
        noSuchImage(twins, "new");
        each(twins, "25 new: restore(#)", BookShows.STATE, new int[] {0, 1}, (x, n) -> x.restore(n));
        each(twins, "26 new: told(#)", BookShows.OUTSIDE, beside(4), (x, n) -> x.told(n));
    }

    /** Each call that asks for a PAGE; all but the first ask for an EXAMPLE. */
    private static void noSuchPage(Twins twins, String state, int[] numbers, int version) {
        each(twins, "11 " + state + ": page(#, 0)", BookShows.UNKNOWN, numbers, (x, n) -> x.page(n, 0));
        each(twins, "11 " + state + ": page(#, 4)", BookShows.UNKNOWN, numbers, (x, n) -> x.page(n, 4));
        noSuchExample(twins, state, numbers, version);
    }

    private static void noSuchExample(Twins twins, String state, int[] numbers, int version) {
        each(twins, "12 " + state + ": held(#, .., 0)", BookShows.UNKNOWN, numbers, (x, n) -> x.held(n, version, 0));
        each(twins, "12 " + state + ": held(#, .., 3)", BookShows.UNKNOWN, numbers, (x, n) -> x.held(n, version, 3));
        each(twins, "12 " + state + ": held(#, -1, 3)", BookShows.UNKNOWN, numbers, (x, n) -> x.held(n, -1, 3));
        each(twins, "13 " + state + ": stale(#)", BookShows.UNKNOWN, numbers, (x, n) -> x.stale(n));
        each(twins, "14 " + state + ": blame(#, ..)", BookShows.UNKNOWN, numbers, (x, n) -> x.blame(n, version));
        each(twins, "14 " + state + ": blame(#, 0)", BookShows.UNKNOWN, numbers, (x, n) -> x.blame(n, 0));
        each(twins, "22 " + state + ": mend(#, ..)", BookShows.UNKNOWN, numbers, (x, n) -> x.mend(n, version));
        each(twins, "23 " + state + ": instead(#, ..)", BookShows.UNKNOWN, numbers, (x, n) -> x.instead(n, version));
    }

    /** Each call that asks for a VERSION and no PAGE; what else is asked for is not there either. */
    private static void noSuchVersion(Twins twins, String state, int[] numbers) {
        each(twins, "7 " + state + ": written(#, 8, 99)", BookShows.UNKNOWN, numbers, (x, n) -> x.written(n, 8, 99));
        each(twins, "7 " + state + ": written(#, 0, 99)", BookShows.UNKNOWN, numbers, (x, n) -> x.written(n, 0, 99));
        each(twins, "7 " + state + ": written(#, 0, -1)", BookShows.UNKNOWN, numbers, (x, n) -> x.written(n, 0, -1));
        each(twins, "8 " + state + ": comes(#, 1000)", BookShows.UNKNOWN, numbers, (x, n) -> x.comes(n, 1000));
        each(twins, "8 " + state + ": comes(#, 0)", BookShows.UNKNOWN, numbers, (x, n) -> x.comes(n, 0));
        each(twins, "16 " + state + ": cover(#)", BookShows.UNKNOWN, numbers, (x, n) -> x.cover(n));
        each(twins, "18 " + state + ": slip(#, -1)", BookShows.UNKNOWN, numbers, (x, n) -> x.slip(n, -1));
        each(twins, "18 " + state + ": slip(#, 999)", BookShows.UNKNOWN, numbers, (x, n) -> x.slip(n, 999));
        each(twins, "19 " + state + ": noticed(#, 0)", BookShows.UNKNOWN, numbers, (x, n) -> x.noticed(n, 0));
        each(twins, "19 " + state + ": noticed(#, -1)", BookShows.UNKNOWN, numbers, (x, n) -> x.noticed(n, -1));
        each(twins, "20 " + state + ": unshown(#, -1)", BookShows.UNKNOWN, numbers, (x, n) -> x.unshown(n, -1));
        each(twins, "20 " + state + ": unshown(#, 999)", BookShows.UNKNOWN, numbers, (x, n) -> x.unshown(n, 999));
        each(twins, "21 " + state + ": notice(#)", BookShows.UNKNOWN, numbers, (x, n) -> x.notice(n));
    }

    /** Each call that asks for an EXAMPLE and a VERSION, where the EXAMPLE is there. */
    private static void noSuchVersionOf(Twins twins, String state, int page, int[] numbers) {
        each(twins, "12 " + state + ": held(.., #, 0)", BookShows.UNKNOWN, numbers, (x, n) -> x.held(page, n, 0));
        each(twins, "12 " + state + ": held(.., #, -1)", BookShows.UNKNOWN, numbers, (x, n) -> x.held(page, n, -1));
        each(twins, "14 " + state + ": blame(.., #)", BookShows.UNKNOWN, numbers, (x, n) -> x.blame(page, n));
        each(twins, "22 " + state + ": mend(.., #)", BookShows.UNKNOWN, numbers, (x, n) -> x.mend(page, n));
        each(twins, "23 " + state + ": instead(.., #)", BookShows.UNKNOWN, numbers, (x, n) -> x.instead(page, n));
    }

    private static void noSuchImage(Twins twins, String state) {
        each(twins, "24 " + state + ": image(#)", BookShows.OUTSIDE, beside(2), (x, n) -> x.image(n));
        each(twins, "25 " + state + ": restore(#)", BookShows.OUTSIDE, beside(2), (x, n) -> x.restore(n));
    }

    /** Six VERSIONS, twelve PAGES, forty signs; IMAGE 0 was kept halfway, IMAGE 1 never. */
    private static void makeFull(BookShows x) {
        makeSome(x);
        x.image(0);
        for (int version = 2; version < 6; version++) {
            x.version();
            Due.word(x, version, "+x" + version);
        }
        for (int page = 4; page < 12; page++) {
            if (page % 2 == 0) {
                x.tells(page % 8);
            } else {
                Due.shows(x, "+c1" + (char) ('a' + page % 8) + "2", 7);
            }
        }
        Due.say(x, UNFINISHED);
    }

    /** Two VERSIONS; PAGE 0 TELLS, 1 HOLDS in both, 2 in VERSION 0 alone, 3 in none and comes to GONE. */
    private static void makeSome(BookShows x) {
        Due.word(x, 0, "+x1");
        Due.word(x, 1, "*a3x");
        x.tells(0);
        Due.shows(x, "+12", 3);
        Due.shows(x, "b2", 8);
        Due.shows(x, "h1", 4);
        x.version();
        Due.word(x, 0, "+x2");
    }

    private static void whereAllIsFull() {
        Twins twins = new Twins(due, RefusalsTest::makeFull);
        each(twins, "2 full: say(#), OUTSIDE ahead of FULL", BookShows.OUTSIDE, new int[] {LEAST, -1, 32, 127, MOST}, (x, n) -> x.say(n));
        each(twins, "2 full: say(#)", BookShows.FULL, new int[] {33, '1', 126}, (x, n) -> x.say(n));
        twins.refuse("5 full: version()", BookShows::version, BookShows.FULL);
        each(twins, "6 full: word(#), UNKNOWN ahead of NO", BookShows.UNKNOWN, beside(8), (x, n) -> x.word(n));
        each(twins, "6 full: word(#)", BookShows.NO, new int[] {0, 7}, (x, n) -> x.word(n));
        each(twins, "8 full: comes(5, #), OUTSIDE ahead of NO", BookShows.OUTSIDE, beside(1000), (x, n) -> x.comes(5, n));
        each(twins, "8 full: comes(5, #)", BookShows.NO, new int[] {0, 999}, (x, n) -> x.comes(5, n));
        each(twins, "9 full: tells(#), UNKNOWN ahead of FULL", BookShows.UNKNOWN, beside(8), (x, n) -> x.tells(n));
        each(twins, "9 full: tells(#)", BookShows.FULL, new int[] {0, 7}, (x, n) -> x.tells(n));
        each(twins, "10 full: shows(#), OUTSIDE ahead of FULL", BookShows.OUTSIDE, beside(1000), (x, n) -> x.shows(n));
        each(twins, "10 full: shows(#), FULL ahead of NO", BookShows.FULL, new int[] {0, 999}, (x, n) -> x.shows(n));
        each(twins, "11 full: page(11, #)", BookShows.OUTSIDE, beside(4), (x, n) -> x.page(11, n));
        each(twins, "12 full: held(11, 5, #)", BookShows.OUTSIDE, beside(3), (x, n) -> x.held(11, 5, n));
        noSuchPage(twins, "full", beside(12), 5);
        noSuchExample(twins, "full, it TELLS", new int[] {0, 10}, 5);
        noSuchVersion(twins, "full", beside(6));
        noSuchVersionOf(twins, "full", 11, beside(6));
        twins.refuse("14 full: blame(1, 5), it HOLDS", x -> x.blame(1, 5), BookShows.STATE);
        twins.refuse("14 full: blame(11, 5), none", x -> x.blame(11, 5), BookShows.NO);
        each(twins, "19 full: noticed(5, #)", BookShows.OUTSIDE, new int[] {LEAST, -1, 18, MOST}, (x, n) -> x.noticed(5, n));
        noSuchImage(twins, "full");
        twins.refuse("25 full: restore(1)", x -> x.restore(1), BookShows.STATE);
        each(twins, "26 full: told(#)", BookShows.OUTSIDE, beside(4), (x, n) -> x.told(n));
        fullIsMadeAsTold();
    }

    /** What the refusals above lean on. */
    private static void fullIsMadeAsTold() {
        BookShows x = new BookShows();
        makeFull(x);
        due.is("full: signs", x.told(0), 40);
        due.is("full: FAULT", x.fault(), 40);
        due.is("full: VERSIONS", x.told(1), 6);
        due.is("full: PAGES", x.told(2), 12);
        due.is("full: PAGES that SHOW", x.told(3), 0b101010101110);
        due.is("full: SLIPS", x.slip(5, -1), 18);
        due.is("full: there is no SLIP behind the last", x.noticed(5, 17) >= 0 ? 1 : 0, 1);
    }

    private static void withAFaultOnThePad() {
        Twins twins = new Twins(due, x -> {
            makeSome(x);
            x.image(1);
            x.tells(5);
            Due.say(x, "+1");
        });
        each(twins, "6 fault: word(#)", BookShows.NO, new int[] {0, 7}, (x, n) -> x.word(n));
        each(twins, "6 fault: word(#)", BookShows.UNKNOWN, beside(8), (x, n) -> x.word(n));
        each(twins, "8 fault: comes(#, 5)", BookShows.NO, new int[] {0, 1}, (x, n) -> x.comes(n, 5));
        each(twins, "8 fault: comes(0, #)", BookShows.OUTSIDE, beside(1000), (x, n) -> x.comes(0, n));
        each(twins, "8 fault: comes(#, -1)", BookShows.UNKNOWN, beside(2), (x, n) -> x.comes(n, -1));
        each(twins, "10 fault: shows(#)", BookShows.NO, new int[] {0, 999}, (x, n) -> x.shows(n));
        each(twins, "10 fault: shows(#)", BookShows.OUTSIDE, beside(1000), (x, n) -> x.shows(n));
        twins.refuse("14 blame(1, 0), VERSION 0 and it HOLDS", x -> x.blame(1, 0), BookShows.STATE);
        twins.refuse("14 blame(1, 1), it HOLDS", x -> x.blame(1, 1), BookShows.STATE);
        twins.refuse("14 blame(3, 0), STATE ahead of NO", x -> x.blame(3, 0), BookShows.STATE);
        twins.refuse("14 blame(3, 1)", x -> x.blame(3, 1), BookShows.NO);
        each(twins, "22 mend(3, #), GONE", BookShows.NO, new int[] {0, 1}, (x, n) -> x.mend(3, n));
        each(twins, "22 mend(3, #), UNKNOWN ahead of NO", BookShows.UNKNOWN, beside(2), (x, n) -> x.mend(3, n));
        twins.refuse("25 restore(0)", x -> x.restore(0), BookShows.STATE);
    }

    private static void withAnXOnThePad() {
        ToIntFunction<BookShows> shows = x -> x.shows(3);
        for (String text : new String[] {"x", "+1x", "?01x", "?1x0", "ax", "aaaaaax"}) {
            Twins twins = new Twins(due, x -> {
                makeSome(x);
                Due.say(x, text);
            });
            twins.refuse("10 shows " + text, shows, BookShows.NO);
        }
        Twins twins = new Twins(due, x -> {
            makeSome(x);
            x.image(0);
            while (x.told(2) < 12) {
                x.tells(3);
            }
            Due.say(x, "+1x");
        });
        twins.refuse("10 FULL ahead of an x", shows, BookShows.FULL);
        each(twins, "10 OUTSIDE ahead of FULL and an x: shows(#)", BookShows.OUTSIDE, beside(1000), (x, n) -> x.shows(n));
        each(twins, "9 FULL, whatever is on the PAD: tells(#)", BookShows.FULL, new int[] {0, 7}, (x, n) -> x.tells(n));
    }

    private static void withoutSigns() {
        Twins twins = new Twins(due, RefusalsTest::makeSome);
        each(twins, "8 no signs: comes(#, 0)", BookShows.NO, new int[] {0, 1}, (x, n) -> x.comes(n, 0));
        twins.refuse("10 no signs: shows(0)", x -> x.shows(0), BookShows.NO);
        each(twins, "6 no signs: word(#)", BookShows.UNKNOWN, beside(8), (x, n) -> x.word(n));
        Twins endless = new Twins(due, x -> {
            Due.word(x, 2, "cx");
            Due.shows(x, "c1", 0);
        });
        endless.refuse("22 mend(0, 0), ENDLESS", x -> x.mend(0, 0), BookShows.NO);
    }
}
