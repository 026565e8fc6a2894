import java.util.function.IntSupplier;

/** Counts and prints answers that are not the ones that are due. */
final class Due {
    private int wrong;
    private int asked;

    void is(String call, int got, int want) {
        asked++;
        if (got != want) {
            wrong++;
            System.out.println(call + " answered " + got + ", due is " + want);
        }
    }

    /** A refused call answers as told and changes nothing. */
    void refused(String call, BookShows x, IntSupplier asks, int want) {
        String before = stateOf(x);
        is(call, asks.getAsInt(), want);
        asked++;
        if (!before.equals(stateOf(x))) {
            wrong++;
            System.out.println(call + " was refused, but changed something");
        }
    }

    /** Ends the program as a test is to end. */
    void end() {
        System.out.println(wrong == 0 ? asked + " answers are as due" : wrong + " of " + asked + " answers are not as due");
        if (wrong != 0) {
            System.exit(1);
        }
    }

    static void say(BookShows x, String text) {
        for (int i = 0; i < text.length(); i++) {
            x.say(text.charAt(i));
        }
    }

    static int word(BookShows x, int word, String text) {
        x.wipe();
        say(x, text);
        return x.word(word);
    }

    static int shows(BookShows x, String text, int due) {
        x.wipe();
        say(x, text);
        return x.shows(due);
    }

    static int comes(BookShows x, String text, int version, int given) {
        x.wipe();
        say(x, text);
        return x.comes(version, given);
    }

    static int fault(BookShows x, String text) {
        x.wipe();
        say(x, text);
        return x.fault();
    }

    static String written(BookShows x, int version, int word) {
        StringBuilder text = new StringBuilder();
        int count = x.written(version, word, -1);
        for (int i = 0; i < count; i++) {
            text.append((char) x.written(version, word, i));
        }
        return text.toString();
    }

    /** All that can be asked without changing anything. */
    static String stateOf(BookShows x) {
        StringBuilder state = new StringBuilder();
        for (int what = 0; what < 4; what++) {
            state.append(x.told(what)).append(' ');
        }
        state.append(x.fault()).append(' ').append(x.comes(0, 7)).append(' ');
        for (int version = 0; version < x.told(1); version++) {
            for (int word = 0; word < 8; word++) {
                state.append(written(x, version, word)).append('|');
            }
        }
        for (int page = 0; page < x.told(2); page++) {
            for (int what = 0; what < 4; what++) {
                state.append(x.page(page, what)).append(' ');
            }
            for (int version = 0; version < x.told(1); version++) {
                state.append(x.held(page, version, 0)).append(' ').append(x.held(page, version, 2)).append(' ');
            }
        }
        return state.toString();
    }
}
