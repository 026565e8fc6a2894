import java.util.ArrayList;
import java.util.List;
import java.util.Random;

/** Random runs of calls, each answer held against the plain book's. */
public final class RandomRunsTest {
    private static final int RUNS = 1500;
    private static final int CALLS = 512;

    private final Random random;
    private final BookShows x = new BookShows();
    private final PlainBook plain = new PlainBook();
    private final List<String> calls = new ArrayList<>();
    private boolean wrong;

    private RandomRunsTest(long seed) {
        random = new Random(seed);
    }

    public static void main(String[] args) {
        int wrongRuns = 0;
        int[] seen = new int[4];
        for (long seed = 1; seed <= RUNS && wrongRuns < 3; seed++) {
            RandomRunsTest run = new RandomRunsTest(seed);
            run.go(seen);
            if (run.wrong) {
                wrongRuns++;
                System.out.println("run " + seed + ": " + String.join(" ", run.calls));
            }
        }
        System.out.println(RUNS + " runs, held(.., 0): " + seen[0] + " numbers, " + seen[1] + " GONE, " + seen[2] + " ENDLESS; "
            + wrongRuns + " runs are not as due");
        if (wrongRuns != 0) {
            System.exit(1);
        }
    }

    private int due(String call, int got, int want) {
        calls.add(call + "=" + got);
        if (got != want && !wrong) {
            wrong = true;
            calls.add("(due is " + want + ")");
        }
        return got;
    }

    private int below(int n) {
        return random.nextInt(n);
    }

    /** Mostly one of n numbers from 0 on, now and then one beside them. */
    private int near(int n) {
        int pick = below(40);
        if (pick == 0) {
            return -1 - below(3);
        }
        if (pick == 1) {
            return n + below(3);
        }
        if (pick == 2 && below(4) == 0) {
            return below(2) == 0 ? Integer.MIN_VALUE : Integer.MAX_VALUE;
        }
        return n > 0 ? below(n) : 0;
    }

    private String text(int depth, int word, boolean x) {
        int pick = depth <= 0 ? below(3) : below(12);
        if (pick < 3) {
            return x && below(3) != 0 ? "x" : String.valueOf(below(10));
        }
        if (pick < 6) {
            // mostly a WORD ahead of this one, so that many a text ends
            int other = word > 0 && below(4) != 0 ? below(word) : below(8);
            return (char) ('a' + other) + text(depth - 1, word, x);
        }
        if (pick < 10) {
            return "+-*m".charAt(below(4)) + text(depth - 1, word, x) + text(depth - 1, word, x);
        }
        return "?" + text(depth - 1, word, x) + text(depth - 1, word, x) + text(depth - 1, word, x);
    }

    private void say(String text) {
        for (int i = 0; i < text.length(); i++) {
            say(text.charAt(i));
        }
    }

    private void say(int sign) {
        due("say(" + sign + ")", x.say(sign), plain.say(sign));
    }

    private void wipe() {
        due("wipe()", x.wipe(), plain.wipe());
    }

    private void writeWord(int word, int depth) {
        switch (below(12)) {
            case 0:
                break;
            case 1:
            case 2:
                say("?x" + below(10) + "+"  + below(10) + (char) ('a' + (below(2) == 0 ? below(8) : word & 7)) + "-x1");
                break;
            case 3:
                say("+" + (char) ('a' + Math.max(0, word - 1 & 7)) + "x" + (char) ('a' + Math.max(0, word - 1 & 7)) + "x");
                break;
            default:
                say(text(depth, word, true));
        }
        due("word(" + word + ")", x.word(word), plain.word(word));
    }

    private void showExample(int depth) {
        if (below(6) == 0) {
            say((char) ('a' + below(8)));
        }
        say(text(depth, 8, below(20) == 0));
        int due = below(4) == 0 ? near(1000) : below(12);
        int page = due("shows(" + due + ")", x.shows(due), plain.shows(due));
        if (page >= 0 && below(5) != 0) {
            int version = below(plain.told(1));
            due("mend(" + page + ", " + version + ")", x.mend(page, version), plain.mend(page, version));
        }
        if (page < 0) {
            wipe();
        }
    }

    /** A language of most WORDS, a book about it, and some VERSIONS, each with a few WORDS changed. */
    private void begin() {
        for (int word = 0; word < 8; word++) {
            if (below(8) != 0) {
                writeWord(word, 1 + below(2));
            }
        }
        int pages = below(9);
        for (int page = 0; page < pages; page++) {
            if (below(5) == 0) {
                int word = below(8);
                due("tells(" + word + ")", x.tells(word), plain.tells(word));
            } else {
                showExample(1 + below(3));
            }
        }
        int versions = below(6);
        for (int version = 1; version <= versions; version++) {
            due("version()", x.version(), plain.version());
            for (int changes = 1 + below(3); changes > 0; changes--) {
                writeWord(below(8), 1 + below(2));
            }
        }
    }

    private void tryPad() {
        if (below(3) == 0) {
            say(33 + below(94));
        } else if (below(3) == 0) {
            say(30 + below(100));
        }
        say(text(below(8), below(9), true));
        due("fault()", x.fault(), plain.fault());
        int version = near(plain.told(1));
        int given = near(1000);
        due("comes(" + version + ", " + given + ")", x.comes(version, given), plain.comes(version, given));
        if (below(3) != 0) {
            wipe();
        }
    }

    private void go(int[] seen) {
        begin();
        while (calls.size() < CALLS - 60 && !wrong) {
            int pick = below(100);
            if (pick < 2) {
                writeWord(near(8), 1 + below(4));
            } else if (pick < 4) {
                showExample(1 + below(4));
            } else if (pick < 5) {
                tryPad();
            } else {
                ask(below(41), seen);
            }
        }
    }

    private void ask(int pick, int[] seen) {
        int pages = plain.told(2);
        int versions = plain.told(1);
        int page = near(pages);
        int version = near(versions);
        String both = "(" + page + ", " + version + ")";
        switch (pick) {
            case 0: if (below(3) == 0) due("version()", x.version(), plain.version()); break;
            case 1: case 2: { int word = near(8); due("tells(" + word + ")", x.tells(word), plain.tells(word)); break; }
            case 3: wipe(); break;
            case 4: { int n = near(2); due("image(" + n + ")", x.image(n), plain.image(n)); break; }
            case 5: if (below(3) != 0) break; else { int n = near(2); due("restore(" + n + ")", x.restore(n), plain.restore(n)); break; }
            case 6: case 7: case 8: if (below(6) == 0) due("mend" + both, x.mend(page, version), plain.mend(page, version)); break;
            case 9: { int what = near(4); due("told(" + what + ")", x.told(what), plain.told(what)); break; }
            case 10: { int word = near(8), i = below(5) - 1;
                due("written(" + version + ", " + word + ", " + i + ")", x.written(version, word, i), plain.written(version, word, i)); break; }
            case 11: case 12: { int what = near(4); due("page(" + page + ", " + what + ")", x.page(page, what), plain.page(page, what)); break; }
            case 13: case 14: case 15: case 16: case 17: {
                int what = near(3);
                int got = due("held(" + page + ", " + version + ", " + what + ")", x.held(page, version, what), plain.held(page, version, what));
                if (what == 0) seen[got >= 0 ? 0 : got == -10 ? 1 : got == -11 ? 2 : 3]++;
                break; }
            case 18: case 19: due("stale(" + page + ")", x.stale(page), plain.stale(page)); break;
            case 20: case 21: case 22: case 23: due("blame" + both, x.blame(page, version), plain.blame(page, version)); break;
            case 24: case 25: { int what = below(pages + 4) - 3; due("order(" + what + ")", x.order(what), plain.order(what)); break; }
            case 26: case 27: due("cover(" + version + ")", x.cover(version), plain.cover(version)); break;
            case 28: case 29: due("apart()", x.apart(), plain.apart()); break;
            case 30: { int i = below(20) - 2; due("slip(" + version + ", " + i + ")", x.slip(version, i), plain.slip(version, i)); break; }
            case 31: case 32: { int s = near(Math.max(1, plain.slip(0, -1))); due("noticed(" + version + ", " + s + ")", x.noticed(version, s), plain.noticed(version, s)); break; }
            case 33: case 34: { int i = below(10) - 2; due("unshown(" + version + ", " + i + ")", x.unshown(version, i), plain.unshown(version, i)); break; }
            case 35: case 36: due("notice(" + version + ")", x.notice(version), plain.notice(version)); break;
            default: due("instead" + both, x.instead(page, version), plain.instead(page, version)); break;
        }
    }
}
