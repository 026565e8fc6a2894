import java.lang.management.ManagementFactory;

/** The dearest run that 512 calls allow: what it makes must stay far below the room that all runs share. */
public final class RoomTest {
    private static final long MOST_BYTES = 200_000;
    private static final Due due = new Due();

    public static void main(String[] args) {
        run();
        com.sun.management.ThreadMXBean threads = (com.sun.management.ThreadMXBean) ManagementFactory.getThreadMXBean();
        long before = threads.getCurrentThreadAllocatedBytes();
        run();
        long made = threads.getCurrentThreadAllocatedBytes() - before;
        System.out.println("a run of 512 calls makes " + made + " bytes");
        due.is("bytes made stay below " + MOST_BYTES + ": " + made, made < MOST_BYTES ? 1 : 0, 1);
        due.end();
    }

    /** Eight WORDS of forty signs, the last ones calling 300 WORDS, twelve EXAMPLES, then least sets. */
    private static void run() {
        BookShows x = new BookShows();
        int calls = 0;
        for (int word = 0; word < 8; word++) {
            String ahead = word == 0 ? "xx" : (char) ('a' + word - 1) + "x" + (char) ('a' + word - 1) + "x";
            String text = "+".concat(ahead);
            while (text.length() + 2 <= 11) {
                text = "+" + text + "1";
            }
            calls += text.length() + 1;
            Due.say(x, text);
            due.is("word(" + word + ")", x.word(word), text.length());
        }
        for (int page = 0; page < 12; page++) {
            Due.say(x, "h" + page % 10);
            due.is("shows", x.shows(0), page);
            x.mend(page, 0);
            calls += 4;
        }
        for (; calls < 512; calls += 4) {
            x.mend(calls % 12, 0);
            x.notice(0);
            x.cover(0);
            x.unshown(0, calls % 20);
        }
        due.is("a run ends", x.told(2), 12);
    }
}
