import java.util.List;
import java.util.function.Consumer;
import java.util.function.Function;
import java.util.function.ToIntFunction;

/**
 * Two objects made by the same calls, one of which is asked for something refused: all that can be asked behind
 * it must be answered alike, by calls that change something too (the PAD read as a WORD, images restored).
 * Each look begins with new twins, so that none needs more than the 512 calls that an object has.
 */
final class Twins {
    private static final List<Function<BookShows, String>> LOOKS = List.of(Twins::pad, x -> texts(x, 0, 2),
        x -> texts(x, 2, 4), x -> texts(x, 4, 6), Twins::pages, Twins::outcomes, Twins::blames, Twins::leastSets,
        x -> slips(x, 0), x -> slips(x, 5), x -> image(x, 0), x -> image(x, 1));

    private final Due due;
    private final Consumer<BookShows> made;

    Twins(Due due, Consumer<BookShows> made) {
        this.due = due;
        this.made = made;
    }

    void refuse(String call, ToIntFunction<BookShows> asks, int want) {
        for (int look = 0; look < LOOKS.size(); look++) {
            BookShows asked = make();
            BookShows other = make();
            due.is(call, asks.applyAsInt(asked), want);
            String told = LOOKS.get(look).apply(other);
            due.is(call + " changed nothing, look " + look, LOOKS.get(look).apply(asked).equals(told) ? 1 : 0, 1);
        }
    }

    private BookShows make() {
        BookShows x = new BookShows();
        made.accept(x);
        return x;
    }

    /** Signs that are missing are put behind it; then it is read as a WORD's text. */
    private static String pad(BookShows x) {
        StringBuilder told = new StringBuilder();
        told.append(x.told(0)).append(' ').append(x.fault()).append(' ');
        for (int version = 0; version < x.told(1); version++) {
            told.append(x.comes(version, 7)).append(' ');
        }
        while (x.fault() == x.told(0) && x.told(0) < 40) {
            x.say('1');
        }
        told.append(x.word(0)).append(Due.written(x, x.told(1) - 1, 0)).append(' ').append(x.wipe());
        return told.toString();
    }

    private static String texts(BookShows x, int from, int to) {
        StringBuilder told = new StringBuilder();
        for (int version = from; version < to && version < x.told(1); version++) {
            for (int word = 0; word < 8; word++) {
                told.append(Due.written(x, version, word)).append('|');
            }
        }
        return told.append(x.told(1)).toString();
    }

    private static String pages(BookShows x) {
        StringBuilder told = new StringBuilder();
        for (int page = 0; page < x.told(2); page++) {
            for (int what = 0; what < 4; what++) {
                told.append(x.page(page, what)).append(' ');
            }
        }
        return told.append(x.told(3)).toString();
    }

    private static String outcomes(BookShows x) {
        StringBuilder told = new StringBuilder();
        for (int page = 0; page < x.told(2); page++) {
            for (int version = 0; version < x.told(1); version++) {
                told.append(x.held(page, version, 0)).append(' ').append(x.held(page, version, 2)).append(' ');
            }
        }
        return told.toString();
    }

    private static String blames(BookShows x) {
        StringBuilder told = new StringBuilder();
        for (int page = 0; page < x.told(2); page++) {
            told.append(x.stale(page)).append(' ');
            for (int version = 0; version < x.told(1); version++) {
                told.append(x.blame(page, version)).append(' ').append(x.instead(page, version)).append(' ');
            }
        }
        return told.toString();
    }

    private static String leastSets(BookShows x) {
        StringBuilder told = new StringBuilder();
        for (int what = -2; what < x.told(2); what++) {
            told.append(x.order(what)).append(' ');
        }
        told.append(x.apart()).append(' ');
        for (int version = 0; version < x.told(1); version++) {
            told.append(x.cover(version)).append(' ').append(x.notice(version)).append(' ');
            told.append(x.slip(version, -1)).append(' ').append(x.unshown(version, -1)).append(' ');
        }
        return told.toString();
    }

    private static String slips(BookShows x, int version) {
        StringBuilder told = new StringBuilder();
        for (int slip = 0; slip < x.slip(version, -1); slip++) {
            told.append(x.slip(version, slip)).append(' ').append(x.noticed(version, slip)).append(' ');
        }
        return told.append(x.unshown(version, 0)).toString();
    }

    private static String image(BookShows x, int n) {
        return x.restore(n) + " " + leastSets(x) + pages(x) + texts(x, 0, 1);
    }
}
