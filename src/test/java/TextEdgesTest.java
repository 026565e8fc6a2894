/**
 * Part 1 of the document's terms and promises 1 to 8, sentence by sentence where one names an edge. Above each
 * method stands the sentence that it is for.
 */
public final class TextEdgesTest {
    private static final String ENDS = "0123456789x";
    private static final String HAVING = "abcdefgh+-*m?";
    /** Forty signs, whole. */
    private static final String FORTY = "?" + "??123?123?123".repeat(3);

    private static final Due due = new Due();

    public static void main(String[] args) {
        codes();
        fortyAtMost();
        wordsLetters();
        digits();
        leftOver();
        lesserOne();
        ifTheFirstComesToNought();
        notLookedAt();
        withinSix();
        withinSixOnEachSide();
        withinIsCountedAnew();
        firstSignThatCanNotStand();
        moreMustCome();
        fortyAndMoreMustCome();
        emptyPad();
        sixVersions();
        newVersionBeginsAsTheLast();
        noSignsIsGone();
        writtenSigns();
        fromTheLeft();
        goneAheadOfEndless();
        threeHundredGiven();
        twentyNotThrough();
        given();
        due.end();
    }

    private static String leaves(char sign) {
        return "1".repeat(HAVING.indexOf(sign) < 0 ? 0 : sign == '?' ? 3 : "+-*m".indexOf(sign) >= 0 ? 2 : 1);
    }

    // SIGNS (codes 33 to 126, 40 at most)

    private static void codes() {
        for (int code = 0; code < 400; code++) {
            BookShows x = new BookShows();
            boolean isSign = code >= 33 && code <= 126;
            due.is("2 say(" + code + ")", x.say(code), isSign ? 1 : BookShows.OUTSIDE);
            due.is("2 signs behind say(" + code + ")", x.told(0), isSign ? 1 : 0);
        }
    }

    private static void fortyAtMost() {
        BookShows x = new BookShows();
        for (int i = 0; i < 40; i++) {
            due.is("2 sign " + i, x.say(FORTY.charAt(i)), i + 1);
        }
        due.is("2 sign 40", x.say('7'), BookShows.FULL);
        due.is("4 no FAULT in forty signs", x.fault(), BookShows.NONE);
        due.is("8 forty signs come to something", x.comes(0, 0), 3);
        due.is("6 forty signs are a WORD's text", x.word(0), 40);
        due.is("6 as they were said", Due.written(x, 0, 0).equals(FORTY) ? 1 : 0, 1);
        due.is("2 and then the first one again", x.say('7'), 1);
        Due.say(x, "!".repeat(39));
        due.is("3 forty go", x.wipe(), 40);
        due.is("3 none are left", x.wipe(), 0);
        due.is("2 the first one behind wipe", x.say('7'), 1);
    }

    // a WORD a to h and a text

    private static void wordsLetters() {
        BookShows x = new BookShows();
        for (int word = 0; word < 8; word++) {
            Due.word(x, word, "+x" + word);
        }
        for (int word = 0; word < 8; word++) {
            due.is("8 WORD " + word, Due.comes(x, (char) ('a' + word) + "x", 0, 100), 100 + word);
        }
    }

    // a digit; x (what is given)

    private static void digits() {
        BookShows x = new BookShows();
        for (int digit = 0; digit <= 9; digit++) {
            due.is("8 digit " + digit, Due.comes(x, String.valueOf(digit), 0, 500), digit);
        }
        for (int number : new int[] {0, 1, 998, 999}) {
            due.is("8 x, given " + number, Due.comes(x, "x", 0, number), number);
        }
    }

    // All numbers are left over by 1000 (0 to 999)

    private static void leftOver() {
        BookShows x = new BookShows();
        due.is("8 998 and 1", Due.comes(x, "+x1", 0, 998), 999);
        due.is("8 999 and 1", Due.comes(x, "+x1", 0, 999), 0);
        due.is("8 999 and 999", Due.comes(x, "+xx", 0, 999), 998);
        due.is("8 500 and 500", Due.comes(x, "+xx", 0, 500), 0);
        due.is("8 1 less 1", Due.comes(x, "-x1", 0, 1), 0);
        due.is("8 0 less 1", Due.comes(x, "-x1", 0, 0), 999);
        due.is("8 0 less 999", Due.comes(x, "-0x", 0, 999), 1);
        due.is("8 999 less 0", Due.comes(x, "-x0", 0, 999), 999);
        due.is("8 999 times 999", Due.comes(x, "*xx", 0, 999), 1);
        due.is("8 500 times 2", Due.comes(x, "*x2", 0, 500), 0);
        due.is("8 111 times 9", Due.comes(x, "*x9", 0, 111), 999);
        due.is("8 112 times 9", Due.comes(x, "*x9", 0, 112), 8);
        due.is("8 what is given to a WORD is left over, too", wordOf("+x0", "a+x1", 999), 0);
        due.is("8 what a WORD comes to, too", wordOf("*xx", "ax", 100), 0);
    }

    private static int wordOf(String text, String pad, int given) {
        BookShows x = new BookShows();
        Due.word(x, 0, text);
        return Due.comes(x, pad, 0, given);
    }

    // m and two texts (the lesser one)

    private static void lesserOne() {
        BookShows x = new BookShows();
        due.is("8 the lesser of 4 and 5", Due.comes(x, "m45", 0, 0), 4);
        due.is("8 the lesser of 5 and 4", Due.comes(x, "m54", 0, 0), 4);
        due.is("8 of two alike", Due.comes(x, "m44", 0, 0), 4);
        due.is("8 of 0 and 999", Due.comes(x, "m-01x", 0, 0), 0);
        due.is("8 of numbers left over", Due.comes(x, "m+x15", 0, 999), 0);
    }

    // ? and three texts (the second one, if the first comes to 0, else the third)

    private static void ifTheFirstComesToNought() {
        BookShows x = new BookShows();
        int[] given = {0, 1, 2, 500, 999};
        for (int number : given) {
            due.is("8 ? given " + number, Due.comes(x, "?x78", 0, number), number == 0 ? 7 : 8);
        }
        due.is("8 ? of 999 and 1", Due.comes(x, "?+x178", 0, 999), 7);
        due.is("8 ? of 500 times 2", Due.comes(x, "?*x278", 0, 500), 7);
        due.is("8 ? of 0 less 0", Due.comes(x, "?-xx78", 0, 3), 7);
    }

    // which is not looked at, nor the other one then

    private static void notLookedAt() {
        BookShows x = new BookShows();
        Due.word(x, 0, "ax");
        for (String other : new String[] {"h1", "a1", "+1h1", "?h111", "ah1"}) {
            due.is("8 the third is not looked at: " + other, Due.comes(x, "+?05" + other + "2", 0, 0), 7);
            due.is("8 the second is not looked at: " + other, Due.comes(x, "+?1" + other + "52", 0, 0), 7);
            int outcome = other.startsWith("a1") ? -11 : -10;
            due.is("8 the second is: " + other, Due.comes(x, "+?0" + other + "52", 0, 0), outcome);
            due.is("8 the third is: " + other, Due.comes(x, "+?15" + other + "2", 0, 0), outcome);
            due.is("8 the first is: " + other, Due.comes(x, "+?" + other + "552", 0, 0), outcome);
        }
        due.is("8 both sides of all others are", Due.comes(x, "*0h1", 0, 0), -10);
        due.is("8 of the lesser one, too", Due.comes(x, "m0h1", 0, 0), -10);
    }

    // No text lies within more than 6 others; one that has texts of its own can not within 6 others

    private static void withinSix() {
        BookShows x = new BookShows();
        for (char sign : ENDS.toCharArray()) {
            due.is("4 " + sign + " within 6", Due.fault(x, "aaaaaa" + sign), BookShows.NONE);
        }
        for (char sign : HAVING.toCharArray()) {
            due.is("4 " + sign + " within 5", Due.fault(x, "aaaaa" + sign + leaves(sign)), BookShows.NONE);
            due.is("4 " + sign + " within 6", Due.fault(x, "aaaaaa" + sign + leaves(sign)), 6);
            due.is("4 " + sign + " within 6, at the end", Due.fault(x, "aaaaaa" + sign), 6);
            due.refused("6 " + sign + " within 6", x, () -> x.word(0), BookShows.NO);
        }
    }

    private static void withinSixOnEachSide() {
        BookShows x = new BookShows();
        String[] around = {"a#", "h#", "+#1", "+1#", "-#1", "-1#", "*#1", "*1#", "m#1", "m1#", "?#11", "?1#1", "?11#"};
        for (String one : around) {
            String six = "#";
            for (int i = 0; i < 6; i++) {
                six = six.replace("#", one);
            }
            int place = six.indexOf('#');
            due.is("4 within six of " + one, Due.fault(x, six.replace("#", "x")), BookShows.NONE);
            due.is("4 too deep within six of " + one, Due.fault(x, six.replace("#", "b1")), place);
        }
    }

    private static void withinIsCountedAnew() {
        BookShows x = new BookShows();
        due.is("4 two sides, both 6 deep", Due.fault(x, "+aaaaa1aaaaa1"), BookShows.NONE);
        due.is("4 the second side too deep", Due.fault(x, "+aaaaa1aaaaaa1"), 12);
        due.is("4 the third side too deep", Due.fault(x, "?aaaaa1aaaaa1aaaaaa1"), 18);
        Due.word(x, 0, "bbbbbbx");
        Due.word(x, 1, "+x1");
        due.is("8 WORDS' own texts do not count", Due.comes(x, "aaaaaax", 0, 0), 36);
    }

    // THE FAULT: the place (from 0 on) of the first sign that can not stand there

    private static void firstSignThatCanNotStand() {
        BookShows x = new BookShows();
        for (char sign = 33; sign <= 126; sign++) {
            boolean ends = ENDS.indexOf(sign) >= 0;
            boolean has = HAVING.indexOf(sign) >= 0;
            due.is("4 " + sign + " alone", Due.fault(x, "" + sign), ends ? BookShows.NONE : has ? 1 : 0);
            due.is("4 " + sign + " inside", Due.fault(x, "?1" + sign + leaves(sign) + "2"), ends || has ? BookShows.NONE : 2);
            due.is("4 " + sign + " behind all", Due.fault(x, "+12" + sign), 3);
            due.is("4 " + sign + " behind all of one sign", Due.fault(x, "x" + sign), 1);
        }
        due.is("4 the first of several", Due.fault(x, "+1!!!"), 2);
        due.is("4 ahead of what is missing", Due.fault(x, "?!"), 1);
        due.is("4 at the 40th sign", Due.fault(x, FORTY.substring(0, 39) + "!"), 39);
        String whole = "+?" + "?+12+12+12".repeat(3) + "++12+12";
        due.is("4 39 signs", Due.fault(x, whole), BookShows.NONE);
        due.is("4 the 40th behind 39 signs", Due.fault(x, whole + "1"), 39);
    }

    // the number of signs, if more must come

    private static void moreMustCome() {
        BookShows x = new BookShows();
        for (int count = 0; count < 40; count++) {
            due.is("4 " + count + " of forty signs", Due.fault(x, FORTY.substring(0, count)), count);
        }
        for (char sign : HAVING.toCharArray()) {
            String whole = sign + leaves(sign);
            for (int count = 1; count < whole.length(); count++) {
                due.is("4 " + count + " of " + whole, Due.fault(x, whole.substring(0, count)), count);
            }
            due.is("4 " + whole, Due.fault(x, whole), BookShows.NONE);
        }
    }

    private static void fortyAndMoreMustCome() {
        BookShows x = new BookShows();
        due.is("4 forty signs and more must come", Due.fault(x, FORTY.substring(0, 39) + "a"), 40);
        due.refused("2 but no more can", x, () -> x.say('1'), BookShows.FULL);
        due.refused("6 NO", x, () -> x.word(0), BookShows.NO);
        due.refused("8 NO", x, () -> x.comes(0, 0), BookShows.NO);
        due.refused("10 NO", x, () -> x.shows(0), BookShows.NO);
    }

    private static void emptyPad() {
        BookShows x = new BookShows();
        due.is("4 on an empty PAD", x.fault(), 0);
        due.is("8 on an empty PAD", x.comes(0, 0), BookShows.NO);
        due.is("10 on an empty PAD", x.shows(0), BookShows.NO);
        due.is("3 on an empty PAD", x.wipe(), 0);
        due.is("6 on an empty PAD", x.word(0), 0);
        due.is("4 on a PAD that was wiped", Due.fault(x, "12"), 1);
        x.wipe();
        due.is("4 no sign of before is left", x.fault(), 0);
        x.say('+');
        due.is("4 nor behind a new one", x.fault(), 1);
    }

    // VERSIONS, 6 at most, numbered from 0 on

    private static void sixVersions() {
        BookShows x = new BookShows();
        for (int version = 0; version < 6; version++) {
            due.is("5 VERSIONS", x.told(1), version + 1);
            due.is("7 the last VERSION is there", x.written(version, 0, -1), 0);
            due.is("7 the next one is not", x.written(version + 1, 0, -1), BookShows.UNKNOWN);
            due.is("5 version()", x.version(), version < 5 ? version + 1 : BookShows.FULL);
        }
        due.is("5 still 6", x.told(1), 6);
        due.is("5 version() again", x.version(), BookShows.FULL);
    }

    // a new one begins as the last one is

    private static void newVersionBeginsAsTheLast() {
        BookShows x = new BookShows();
        Due.word(x, 0, "1");
        Due.word(x, 7, "2");
        for (int version = 1; version < 6; version++) {
            x.version();
            for (int word = 0; word < 8; word++) {
                String ahead = Due.written(x, version - 1, word);
                due.is("5 WORD " + word + " of VERSION " + version, Due.written(x, version, word).equals(ahead) ? 1 : 0, 1);
            }
            due.is("6 a WORD's text there", Due.word(x, version, "+x" + version), 3);
            Due.word(x, 7, version % 2 == 1 ? "" : "3");
            due.is("6 not in the VERSION ahead", x.written(version - 1, version, -1), 0);
        }
        for (int version = 0; version < 6; version++) {
            due.is("7 WORD 7 of VERSION " + version, x.written(version, 7, -1), version % 2 == 1 ? 0 : 1);
            due.is("7 WORD 5 of VERSION " + version, x.written(version, 5, -1), version == 5 ? 3 : 0);
            due.is("8 f1 in VERSION " + version, Due.comes(x, "f1", version, 0), version == 5 ? 6 : -10);
        }
    }

    // The PAD becomes a WORD's text in the last VERSION (it is empty then; no signs: it is GONE): how many signs

    private static void noSignsIsGone() {
        BookShows x = new BookShows();
        due.is("6 GONE already", x.word(4), 0);
        due.is("6 GONE still", x.written(0, 4, -1), 0);
        due.is("6 one sign", Due.word(x, 4, "x"), 1);
        due.is("6 the PAD is empty", x.told(0), 0);
        due.is("6 no signs", x.word(4), 0);
        due.is("7 it is GONE", x.written(0, 4, -1), 0);
        due.is("7 without a first sign", x.written(0, 4, 0), BookShows.NONE);
        due.is("8 it is GONE", Due.comes(x, "e1", 0, 0), -10);
        due.is("6 there again", Due.word(x, 4, "+x1"), 3);
        due.is("8 there again", Due.comes(x, "e1", 0, 0), 2);
        Due.word(x, 4, "9");
        due.is("6 a shorter text, no sign of the longer one", x.written(0, 4, 1), BookShows.NONE);
        Due.say(x, "+x");
        x.word(5);
        due.is("6 a FAULT: not GONE, but as it was", Due.written(x, 0, 5).isEmpty() ? 1 : 0, 1);
        due.is("6 the PAD stays then", x.told(0), 2);
        x.say('7');
        x.word(5);
        x.say('1');
        due.is("6 texts are not the PAD itself", Due.written(x, 0, 5).equals("+x7") ? 1 : 0, 1);
    }

    // how many signs (i = -1; 0: GONE), the i-th; NONE

    private static void writtenSigns() {
        BookShows x = new BookShows();
        Due.word(x, 7, FORTY);
        due.is("7 how many", x.written(0, 7, -1), 40);
        for (int i = 0; i < 40; i++) {
            due.is("7 the sign at " + i, x.written(0, 7, i), FORTY.charAt(i));
        }
        for (int i : new int[] {Integer.MIN_VALUE, -2, 40, 41, Integer.MAX_VALUE}) {
            due.is("7 the sign at " + i, x.written(0, 7, i), BookShows.NONE);
            due.is("7 of a GONE one at " + i, x.written(0, 0, i), BookShows.NONE);
        }
        due.is("7 of a GONE one", x.written(0, 0, -1), 0);
        due.is("7 the first of a GONE one", x.written(0, 0, 0), BookShows.NONE);
    }

    // A text COMES TO something: from the left; what is given to a WORD was reckoned ahead of it

    private static void fromTheLeft() {
        BookShows x = new BookShows();
        Due.word(x, 0, "ax");
        Due.word(x, 1, "7");
        for (char sign : "+-*m".toCharArray()) {
            due.is("8 GONE on the left", Due.comes(x, sign + "h1a1", 0, 0), -10);
            due.is("8 ENDLESS on the left", Due.comes(x, sign + "a1h1", 0, 0), -11);
        }
        due.is("8 the first of ?", Due.comes(x, "?h1a1a1", 0, 0), -10);
        due.is("8 the first of ?, ENDLESS", Due.comes(x, "?a1h1h1", 0, 0), -11);
        due.is("8 what is given is GONE", Due.comes(x, "ah1", 0, 0), -10);
        due.is("8 what is given is ENDLESS", Due.comes(x, "ha1", 0, 0), -11);
        due.is("8 what is given is reckoned, though not used", Due.comes(x, "bh1", 0, 0), -10);
    }

    // it all comes to GONE (-10), if that WORD is GONE; else to ENDLESS (-11)

    private static void goneAheadOfEndless() {
        BookShows x = new BookShows();
        doubling(x);
        due.is("8 the 301st is GONE", Due.comes(x, "++g1g1++e1c1+c1+a1h1", 0, 0), -10);
        due.is("8 the 301st is there", Due.comes(x, "++g1g1++e1c1+c1+a1a1", 0, 0), -11);
        BookShows y = new BookShows();
        Due.word(y, 2, "?xg0c-x1");
        due.is("8 the 21st is GONE", Due.comes(y, "cx", 0, 19), -10);
        due.is("8 the 21st is there", Due.comes(y, "cx", 0, 20), -11);
    }

    /** A WORD a that needs none, and b to g that need the one ahead twice: 1, 3, 7, 15, 31, 63, 127 WORDS are given something. */
    private static void doubling(BookShows x) {
        Due.word(x, 0, "+x1");
        for (char word = 'b'; word <= 'g'; word++) {
            char ahead = (char) (word - 1);
            Due.word(x, word - 'a', "+" + ahead + "x" + ahead + "x");
        }
    }

    // ENDLESS, if 300 WORDS were given something already

    private static void threeHundredGiven() {
        BookShows x = new BookShows();
        doubling(x);
        due.is("8 299 WORDS", Due.comes(x, "++g1g1++e1c1c1", 0, 0), 304);
        due.is("8 300 WORDS", Due.comes(x, "++g1g1++e1c1+c1a1", 0, 0), 306);
        due.is("8 301 WORDS", Due.comes(x, "++g1g1++e1c1+c1+a1a1", 0, 0), -11);
        due.is("8 301 WORDS, the last around all", Due.comes(x, "a++g1g1++e1c1+c1a1", 0, 0), -11);
        due.is("8 300 WORDS, the last around all", Due.comes(x, "a++g1g1++e1c1c1", 0, 0), 305);
        due.is("8 300 WORDS and one not looked at", Due.comes(x, "+?01a1++g1g1++e1c1+c1a1", 0, 0), 307);
        Due.shows(x, "++g1g1++e1c1+c1a1", 306);
        Due.shows(x, "++g1g1++e1c1+c1+a1a1", 308);
        due.is("12 300 WORDS HOLD", x.held(0, 0, 1), 1);
        due.is("12 301 WORDS do not", x.held(1, 0, 1), 0);
        due.is("12 301 WORDS are ENDLESS", x.held(1, 0, 0), -11);
    }

    // or 20 are not through yet

    private static void twentyNotThrough() {
        BookShows x = new BookShows();
        Due.word(x, 0, "?x5a-x1");
        Due.word(x, 1, "ax");
        due.is("8 the 19th of 19", Due.comes(x, "ax", 0, 18), 5);
        due.is("8 the 20th of 20", Due.comes(x, "ax", 0, 19), 5);
        due.is("8 the 21st", Due.comes(x, "ax", 0, 20), -11);
        due.is("8 another WORD around 19", Due.comes(x, "bx", 0, 18), 5);
        due.is("8 another WORD around 20", Due.comes(x, "bx", 0, 19), -11);
        due.is("8 those that are through do not count", Due.comes(x, "+ax+axbx", 0, 18), 15);
        due.is("8 nor one that what is given comes from", Due.comes(x, "a+axaax", 0, 18), 5);
        Due.word(x, 2, "x");
        Due.word(x, 3, "?x0d-cx1");
        due.is("8 one more at each of 19", Due.comes(x, "dx", 0, 18), 0);
        due.is("8 one more at each of 20", Due.comes(x, "dx", 0, 19), 0);
        Due.word(x, 3, "?xc0d-x1");
        due.is("8 one more within 19", Due.comes(x, "dx", 0, 18), 0);
        due.is("8 one more within 20", Due.comes(x, "dx", 0, 19), -11);
    }

    // given a number; OUTSIDE: the number

    private static void given() {
        BookShows x = new BookShows();
        Due.say(x, "x");
        due.is("8 given 0", x.comes(0, 0), 0);
        due.is("8 given 999", x.comes(0, 999), 999);
        for (int number : new int[] {Integer.MIN_VALUE, -1000, -1, 1000, 1001, Integer.MAX_VALUE}) {
            due.refused("8 given " + number, x, () -> x.comes(0, number), BookShows.OUTSIDE);
        }
        due.is("8 a text without x, given 999", Due.comes(x, "4", 0, 999), 4);
        due.is("8 and given 1000", x.comes(0, 1000), BookShows.OUTSIDE);
    }
}
