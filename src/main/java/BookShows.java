/**
 * What the book shows: PAGES that tell WORDS of a small language and show EXAMPLES, held against
 * VERSION after VERSION of that language. The promises are told in ../shared/DOC.md.
 */
public final class BookShows {
    public static final int NONE = -6, UNKNOWN = -1, OUTSIDE = -2, STATE = -3, FULL = -4, NO = -5;

    private static final int GONE = -10;
    private static final int ENDLESS = -11;

    private static final int FIRST_CODE = 33;
    private static final int LAST_CODE = 126;
    private static final int SIGNS = 40;
    private static final int NESTING = 6;
    private static final int NUMBERS = 1000;
    private static final int WORDS = 8;
    private static final int VERSIONS = 6;
    private static final int PAGES = 12;
    private static final int MOST_GIVEN = 300;
    private static final int MOST_OPEN = 20;
    private static final int MOST_SLIPS = WORDS * SIGNS;
    private static final int IMAGES = 2;

    private final Text pad;
    private final Text trial;
    private final Book book;
    private final Book[] images;
    private final boolean[] kept;
    private final Reckoner reckoner;
    private final Outcomes outcomes;
    private final Slips slips;
    private final Needs needs;

    public BookShows() {
        pad = new Text(SIGNS);
        trial = new Text(SIGNS);
        Text nothing = new Text(0);
        book = new Book(nothing);
        images = new Book[IMAGES];
        for (int n = 0; n < IMAGES; n++) {
            images[n] = new Book(nothing);
        }
        kept = new boolean[IMAGES];
        reckoner = new Reckoner(nothing);
        outcomes = new Outcomes(book, reckoner);
        slips = new Slips(book, outcomes, reckoner, trial);
        needs = new Needs();
    }

    // ---- 1 words, versions

    public int say(int sign) {
        if (sign < FIRST_CODE || sign > LAST_CODE) {
            return OUTSIDE;
        }
        if (pad.count() >= SIGNS) {
            return FULL;
        }
        pad.add(sign);
        return pad.count();
    }

    public int wipe() {
        int count = pad.count();
        pad.clear();
        return count;
    }

    public int fault() {
        return pad.firstFault();
    }

    public int version() {
        if (book.versions() >= VERSIONS) {
            return FULL;
        }
        return book.addVersion();
    }

    public int word(int word) {
        if (!isWord(word)) {
            return UNKNOWN;
        }
        int count = pad.count();
        if (count > 0 && pad.firstFault() != NONE) {
            return NO;
        }
        book.rewrite(word, pad.copy());
        pad.clear();
        outcomes.forget(book.versions() - 1);
        slips.forget();
        return count;
    }

    public int written(int version, int word, int i) {
        if (!book.hasVersion(version) || !isWord(word)) {
            return UNKNOWN;
        }
        Text text = book.text(version, word);
        if (i == -1) {
            return text.count();
        }
        return i >= 0 && i < text.count() ? text.sign(i) : NONE;
    }

    public int comes(int version, int given) {
        if (!book.hasVersion(version)) {
            return UNKNOWN;
        }
        if (!isNumber(given)) {
            return OUTSIDE;
        }
        if (pad.firstFault() != NONE) {
            return NO;
        }
        reckoner.take(book, version);
        return reckoner.outcome(pad, given);
    }

    // ---- 2 the book

    public int tells(int word) {
        if (!isWord(word)) {
            return UNKNOWN;
        }
        if (book.pages() >= PAGES) {
            return FULL;
        }
        return book.addTelling(word);
    }

    public int shows(int due) {
        if (!isNumber(due)) {
            return OUTSIDE;
        }
        if (book.pages() >= PAGES) {
            return FULL;
        }
        if (pad.firstFault() != NONE || pad.has('x')) {
            return NO;
        }
        int page = book.addExample(pad.copy(), due);
        pad.clear();
        slips.forget();
        return page;
    }

    public int page(int page, int what) {
        if (!book.hasPage(page)) {
            return UNKNOWN;
        }
        switch (what) {
            case 0:
                return book.toldWord(page);
            case 1:
                return book.isExample(page) ? book.due(page) : NONE;
            case 2:
                return book.named(page);
            case 3:
                return book.example(page).count();
            default:
                return OUTSIDE;
        }
    }

    public int held(int page, int version, int what) {
        if (!book.isExample(page) || !book.hasVersion(version)) {
            return UNKNOWN;
        }
        outcomes.learn(page, version);
        switch (what) {
            case 0:
                return outcomes.of(page, version);
            case 1:
                return outcomes.holds(page, version) ? 1 : 0;
            case 2:
                return outcomes.used(page, version);
            default:
                return OUTSIDE;
        }
    }

    public int stale(int page) {
        if (!book.isExample(page)) {
            return UNKNOWN;
        }
        boolean didHold = false;
        for (int version = 0; version < book.versions(); version++) {
            outcomes.learn(page, version);
            boolean holds = outcomes.holds(page, version);
            if (didHold && !holds) {
                return version;
            }
            didHold = holds;
        }
        return NONE;
    }

    public int blame(int page, int version) {
        if (!book.isExample(page) || !book.hasVersion(version)) {
            return UNKNOWN;
        }
        outcomes.learn(page, version);
        if (version == 0 || outcomes.holds(page, version)) {
            return STATE;
        }
        // an unchanged WORD, taken back, does nothing, so no least set has one
        int changed = book.changed(version);
        int best = NO;
        int fewest = WORDS + 1;
        for (int set = 1; set < 1 << WORDS; set++) {
            int count = Integer.bitCount(set);
            if ((set & ~changed) == 0 && count < fewest && holdsTakenBack(page, version, set)) {
                best = set;
                fewest = count;
            }
        }
        return best;
    }

    // ---- 3 orders, least sets

    public int order(int what) {
        if (what == -1) {
            return earlyAsTheyStand();
        }
        if (what == -2) {
            return leastEarly();
        }
        return what >= 0 && what < book.pages() ? placedAt(what) : NONE;
    }

    public int cover(int version) {
        if (!book.hasVersion(version)) {
            return UNKNOWN;
        }
        outcomes.learnAll(version);
        needs.clear();
        for (int word = 0; word < WORDS; word++) {
            needs.add(outcomes.users(word, version));
        }
        return needs.fewest(book.pages());
    }

    public int apart() {
        for (int version = 0; version < book.versions(); version++) {
            outcomes.learnAll(version);
        }
        needs.clear();
        for (int one = 0; one < book.versions(); one++) {
            for (int other = one + 1; other < book.versions(); other++) {
                needs.add(outcomes.holding(one) ^ outcomes.holding(other));
            }
        }
        return needs.fewest(book.pages());
    }

    public int slip(int version, int i) {
        if (!book.hasVersion(version)) {
            return UNKNOWN;
        }
        int count = slips.list(version);
        if (i == -1) {
            return count;
        }
        return i >= 0 && i < count ? slips.code(i) : NONE;
    }

    public int noticed(int version, int slip) {
        if (!book.hasVersion(version)) {
            return UNKNOWN;
        }
        outcomes.learnAll(version);
        int count = slips.learn(version);
        if (slip < 0 || slip >= count) {
            return OUTSIDE;
        }
        return slips.noticers(version, slip);
    }

    public int unshown(int version, int i) {
        if (!book.hasVersion(version)) {
            return UNKNOWN;
        }
        outcomes.learnAll(version);
        int count = slips.learn(version);
        int found = 0;
        for (int slip = 0; slip < count; slip++) {
            if (slips.noticers(version, slip) == 0) {
                if (found == i) {
                    return slip;
                }
                found++;
            }
        }
        return i == -1 ? found : NONE;
    }

    public int notice(int version) {
        if (!book.hasVersion(version)) {
            return UNKNOWN;
        }
        outcomes.learnAll(version);
        int count = slips.learn(version);
        needs.clear();
        for (int slip = 0; slip < count; slip++) {
            needs.add(slips.noticers(version, slip));
        }
        return needs.fewest(book.pages());
    }

    // ---- 4 mending

    public int mend(int page, int version) {
        if (!book.isExample(page) || !book.hasVersion(version)) {
            return UNKNOWN;
        }
        outcomes.learn(page, version);
        int outcome = outcomes.of(page, version);
        if (!isNumber(outcome)) {
            return NO;
        }
        int due = book.due(page);
        book.setDue(page, outcome);
        slips.forget();
        return due;
    }

    public int instead(int page, int version) {
        if (!book.isExample(page) || !book.hasVersion(version)) {
            return UNKNOWN;
        }
        Text text = book.example(page);
        reckoner.take(book, version);
        for (int place = 0; place < text.count(); place++) {
            if (Signs.isWord(text.sign(place))) {
                int word = mendingWord(text, place, book.due(page));
                if (word != NONE) {
                    return 10 * place + word;
                }
            }
        }
        return NONE;
    }

    public int image(int n) {
        if (!isImage(n)) {
            return OUTSIDE;
        }
        images[n].become(book);
        kept[n] = true;
        return 1;
    }

    public int restore(int n) {
        if (!isImage(n)) {
            return OUTSIDE;
        }
        if (!kept[n]) {
            return STATE;
        }
        book.become(images[n]);
        outcomes.forgetAll();
        slips.forget();
        return 1;
    }

    public int told(int what) {
        switch (what) {
            case 0:
                return pad.count();
            case 1:
                return book.versions();
            case 2:
                return book.pages();
            case 3:
                return book.examples();
            default:
                return OUTSIDE;
        }
    }

    private static boolean isWord(int word) {
        return word >= 0 && word < WORDS;
    }

    private static boolean isNumber(int number) {
        return number >= 0 && number < NUMBERS;
    }

    private static boolean isImage(int n) {
        return n >= 0 && n < IMAGES;
    }

    /** Whether an EXAMPLE HOLDS in a VERSION with a set of WORDS as they were in the one ahead. */
    private boolean holdsTakenBack(int page, int version, int set) {
        reckoner.take(book, version);
        for (int word = 0; word < WORDS; word++) {
            if ((set >> word & 1) == 1) {
                reckoner.replace(word, book.text(version - 1, word));
            }
        }
        return reckoner.outcome(book.example(page), 0) == book.due(page);
    }

    private int earlyAsTheyStand() {
        int told = 0;
        int early = 0;
        for (int page = 0; page < book.pages(); page++) {
            if (book.isExample(page)) {
                early += Integer.bitCount(book.named(page) & ~told);
            } else {
                told |= 1 << book.toldWord(page);
            }
        }
        return early;
    }

    /** With all PAGES that TELL ahead of all others only WORDS that none TELLS are early. */
    private int leastEarly() {
        int told = book.toldWords();
        int early = 0;
        for (int page = 0; page < book.pages(); page++) {
            early += Integer.bitCount(book.named(page) & ~told);
        }
        return early;
    }

    /** The PAGE at a place of the best ORDER: each place has the first PAGE left that costs nothing there. */
    private int placedAt(int place) {
        int everTold = book.toldWords();
        int placed = 0;
        int told = 0;
        int page = NONE;
        for (int i = 0; i <= place; i++) {
            page = firstFree(placed, everTold & ~told);
            if (page == NONE) {
                return NONE;
            }
            placed |= 1 << page;
            if (!book.isExample(page)) {
                told |= 1 << book.toldWord(page);
            }
        }
        return page;
    }

    /** The first PAGE not placed yet that names none of the WORDS that are still to be told. */
    private int firstFree(int placed, int untold) {
        for (int page = 0; page < book.pages(); page++) {
            if ((placed >> page & 1) == 0 && (book.named(page) & untold) == 0) {
                return page;
            }
        }
        return NONE;
    }

    /** The first other WORD that at this place makes the text come to what is due. */
    private int mendingWord(Text text, int place, int due) {
        int there = text.sign(place) - 'a';
        trial.become(text);
        for (int word = 0; word < WORDS; word++) {
            if (word != there) {
                trial.put(place, 'a' + word);
                if (reckoner.outcome(trial, 0) == due) {
                    return word;
                }
            }
        }
        return NONE;
    }

    /** What single signs are. */
    private static final class Signs {
        static boolean isWord(int sign) {
            return sign >= 'a' && sign < 'a' + WORDS;
        }

        static boolean isDigit(int sign) {
            return sign >= '0' && sign <= '9';
        }

        /** How many texts of its own a sign has; NONE, if it can stand nowhere. */
        static int needs(int sign) {
            if (sign >= '0' && sign <= '9') {
                return 0;
            }
            switch (sign) {
                case 'x':
                    return 0;
                case '+':
                case '-':
                case '*':
                case 'm':
                    return 2;
                case '?':
                    return 3;
                default:
                    return sign >= 'a' && sign < 'a' + WORDS ? 1 : NONE;
            }
        }

        /** What a sign becomes by a SLIP; NONE, if it has none. */
        static int slipped(int sign) {
            switch (sign) {
                case '+':
                    return '-';
                case '-':
                case '*':
                case 'm':
                    return '+';
                case 'x':
                case '9':
                    return '0';
                default:
                    return isDigit(sign) ? sign + 1 : NONE;
            }
        }

        static int joined(int sign, int first, int second) {
            switch (sign) {
                case '+':
                    return Math.floorMod(first + second, NUMBERS);
                case '-':
                    return Math.floorMod(first - second, NUMBERS);
                case '*':
                    return Math.floorMod(first * second, NUMBERS);
                default:
                    return Math.min(first, second);
            }
        }
    }

    /** Signs in a row: the PAD, a WORD's text (without signs it is GONE), an EXAMPLE's. */
    private static final class Text {
        private final char[] signs;
        private int count;

        Text(int most) {
            signs = new char[Math.max(0, most)];
            count = 0;
        }

        int count() {
            return count;
        }

        /** The sign at a place; 0 where there is none. */
        int sign(int place) {
            return place >= 0 && place < count ? signs[place] : 0;
        }

        void add(int sign) {
            if (count < signs.length) {
                signs[count] = (char) sign;
                count++;
            }
        }

        void put(int place, int sign) {
            if (place >= 0 && place < count) {
                signs[place] = (char) sign;
            }
        }

        void clear() {
            count = 0;
        }

        void become(Text other) {
            clear();
            for (int place = 0; place < other.count; place++) {
                add(other.signs[place]);
            }
        }

        Text copy() {
            Text copy = new Text(count);
            copy.become(this);
            return copy;
        }

        boolean isLike(Text other) {
            if (count != other.count) {
                return false;
            }
            for (int place = 0; place < count; place++) {
                if (signs[place] != other.signs[place]) {
                    return false;
                }
            }
            return true;
        }

        boolean has(int sign) {
            for (int place = 0; place < count; place++) {
                if (signs[place] == sign) {
                    return true;
                }
            }
            return false;
        }

        /** WORDS in it, as bits. */
        int named() {
            int words = 0;
            for (int place = 0; place < count; place++) {
                if (Signs.isWord(signs[place])) {
                    words |= 1 << signs[place] - 'a';
                }
            }
            return words;
        }

        int firstFault() {
            int end = endOf(0, 0);
            if (end < 0) {
                return -1 - end;
            }
            return end < count ? end : NONE;
        }

        /** The place behind the text that begins at a place; -1 less the place of a fault in it. */
        private int endOf(int place, int within) {
            int texts = Signs.needs(sign(place));
            if (texts < 0 || texts > 0 && within >= NESTING) {
                return -1 - place;
            }
            int end = place + 1;
            for (int i = 0; i < texts && end >= 0; i++) {
                end = endOf(end, within + 1);
            }
            return end;
        }

        /** The place behind the text that begins at a place, where all is known to be without a fault. */
        int behind(int place) {
            int missing = 1;
            for (int end = Math.max(0, place); end < count; end++) {
                missing += Signs.needs(signs[end]) - 1;
                if (missing <= 0) {
                    return end + 1;
                }
            }
            return count;
        }
    }

    /** VERSIONS and PAGES: all that an IMAGE keeps. Texts in it are never changed, so books share them. */
    private static final class Book {
        private final Text nothing;
        private final Text[] texts;
        private final int[] telling;
        private final Text[] shown;
        private final int[] names;
        private final int[] dues;
        private int versions;
        private int pages;

        Book(Text nothing) {
            this.nothing = nothing;
            texts = new Text[VERSIONS * WORDS];
            for (int i = 0; i < VERSIONS * WORDS; i++) {
                texts[i] = nothing;
            }
            telling = new int[PAGES];
            shown = new Text[PAGES];
            for (int page = 0; page < PAGES; page++) {
                shown[page] = nothing;
            }
            names = new int[PAGES];
            dues = new int[PAGES];
            versions = 1;
            pages = 0;
        }

        void become(Book other) {
            for (int i = 0; i < VERSIONS * WORDS; i++) {
                texts[i] = other.texts[i];
            }
            for (int page = 0; page < PAGES; page++) {
                telling[page] = other.telling[page];
                shown[page] = other.shown[page];
                names[page] = other.names[page];
                dues[page] = other.dues[page];
            }
            versions = other.versions;
            pages = other.pages;
        }

        int versions() {
            return versions;
        }

        boolean hasVersion(int version) {
            return version >= 0 && version < versions;
        }

        int addVersion() {
            if (versions >= VERSIONS) {
                return FULL;
            }
            for (int word = 0; word < WORDS; word++) {
                texts[versions * WORDS + word] = text(versions - 1, word);
            }
            versions++;
            return versions - 1;
        }

        Text text(int version, int word) {
            if (!hasVersion(version) || !BookShows.isWord(word)) {
                return nothing;
            }
            return texts[version * WORDS + word];
        }

        void rewrite(int word, Text text) {
            if (BookShows.isWord(word)) {
                texts[(versions - 1) * WORDS + word] = text;
            }
        }

        /** WORDS that are not as they were in the VERSION ahead, as bits. */
        int changed(int version) {
            int words = 0;
            for (int word = 0; word < WORDS; word++) {
                if (!text(version, word).isLike(text(version - 1, word))) {
                    words |= 1 << word;
                }
            }
            return words;
        }

        int pages() {
            return pages;
        }

        boolean hasPage(int page) {
            return page >= 0 && page < pages;
        }

        boolean isExample(int page) {
            return hasPage(page) && telling[page] == NONE;
        }

        /** PAGES that SHOW, as bits. */
        int examples() {
            int set = 0;
            for (int page = 0; page < pages; page++) {
                if (isExample(page)) {
                    set |= 1 << page;
                }
            }
            return set;
        }

        int addTelling(int word) {
            return add(word, nothing, 0);
        }

        int addExample(Text text, int due) {
            return add(NONE, text, due);
        }

        private int add(int word, Text text, int due) {
            if (pages >= PAGES) {
                return FULL;
            }
            telling[pages] = word;
            shown[pages] = text;
            names[pages] = text.named();
            dues[pages] = due;
            pages++;
            return pages - 1;
        }

        /** The WORD that a PAGE TELLS; NONE, if it SHOWS. */
        int toldWord(int page) {
            return hasPage(page) ? telling[page] : NONE;
        }

        /** WORDS that any PAGE TELLS, as bits. */
        int toldWords() {
            int words = 0;
            for (int page = 0; page < pages; page++) {
                if (!isExample(page)) {
                    words |= 1 << telling[page];
                }
            }
            return words;
        }

        /** The text of an EXAMPLE; one without signs, if the PAGE TELLS. */
        Text example(int page) {
            return hasPage(page) ? shown[page] : nothing;
        }

        /** NAMED as bits; 0, if the PAGE TELLS. */
        int named(int page) {
            return hasPage(page) ? names[page] : 0;
        }

        int due(int page) {
            return hasPage(page) ? dues[page] : NONE;
        }

        void setDue(int page, int due) {
            if (hasPage(page)) {
                dues[page] = due;
            }
        }
    }

    /** Reckons what a text comes to, with a row of WORDS' texts that can be changed one by one. */
    private static final class Reckoner {
        private final Text[] words;
        private int place;
        private int given;
        private int open;
        private int used;

        Reckoner(Text nothing) {
            words = new Text[WORDS];
            for (int word = 0; word < WORDS; word++) {
                words[word] = nothing;
            }
        }

        void take(Book book, int version) {
            for (int word = 0; word < WORDS; word++) {
                words[word] = book.text(version, word);
            }
        }

        void replace(int word, Text text) {
            if (BookShows.isWord(word)) {
                words[word] = text;
            }
        }

        int outcome(Text text, int number) {
            place = 0;
            given = 0;
            open = 0;
            used = 0;
            return part(text, number, 0);
        }

        /** WORDS that were USED for the last outcome, as bits. */
        int used() {
            return used;
        }

        /** What the text at the place comes to; GONE and ENDLESS, being below 0, end all around it. */
        private int part(Text text, int number, int within) {
            if (within > NESTING) {
                return ENDLESS;
            }
            int sign = text.sign(place);
            place++;
            if (sign == 'x') {
                return number;
            }
            if (Signs.isDigit(sign)) {
                return sign - '0';
            }
            int first = part(text, number, within + 1);
            if (first < 0) {
                return first;
            }
            if (Signs.isWord(sign)) {
                return give(sign - 'a', first);
            }
            if (sign == '?' && first != 0) {
                place = text.behind(place);
            }
            int second = part(text, number, within + 1);
            if (second < 0) {
                return second;
            }
            if (sign != '?') {
                return Signs.joined(sign, first, second);
            }
            if (first == 0) {
                place = text.behind(place);
            }
            return second;
        }

        private int give(int word, int number) {
            if (!BookShows.isWord(word)) {
                return GONE;
            }
            boolean isGone = words[word].count() == 0;
            if (!isGone && (given >= MOST_GIVEN || open >= MOST_OPEN)) {
                return ENDLESS;
            }
            // the document counts GONE ones as USED, but not one that ENDLESS keeps from being given something
            used |= 1 << word;
            if (isGone) {
                return GONE;
            }
            given++;
            open++;
            int back = place;
            place = 0;
            int outcome = part(words[word], number, 0);
            place = back;
            open--;
            return outcome;
        }
    }

    /** What EXAMPLES come to in VERSIONS: learned ahead of being asked for, kept until a text changes. */
    private static final class Outcomes {
        private final Book book;
        private final Reckoner reckoner;
        private final boolean[] known;
        private final int[] came;
        private final int[] uses;

        Outcomes(Book book, Reckoner reckoner) {
            this.book = book;
            this.reckoner = reckoner;
            known = new boolean[VERSIONS * PAGES];
            came = new int[VERSIONS * PAGES];
            uses = new int[VERSIONS * PAGES];
        }

        void forget(int version) {
            if (version >= 0 && version < VERSIONS) {
                for (int page = 0; page < PAGES; page++) {
                    known[version * PAGES + page] = false;
                }
            }
        }

        void forgetAll() {
            for (int version = 0; version < VERSIONS; version++) {
                forget(version);
            }
        }

        void learn(int page, int version) {
            if (!book.isExample(page) || !book.hasVersion(version)) {
                return;
            }
            int cell = version * PAGES + page;
            if (!known[cell]) {
                reckoner.take(book, version);
                came[cell] = reckoner.outcome(book.example(page), 0);
                uses[cell] = reckoner.used();
                known[cell] = true;
            }
        }

        void learnAll(int version) {
            for (int page = 0; page < book.pages(); page++) {
                learn(page, version);
            }
        }

        int of(int page, int version) {
            return book.isExample(page) && book.hasVersion(version) ? came[version * PAGES + page] : NONE;
        }

        /** WORDS that an EXAMPLE has USED, as bits. */
        int used(int page, int version) {
            return book.isExample(page) && book.hasVersion(version) ? uses[version * PAGES + page] : 0;
        }

        boolean holds(int page, int version) {
            return book.isExample(page) && book.hasVersion(version)
                && came[version * PAGES + page] == book.due(page);
        }

        /** EXAMPLES that HOLD in a VERSION, as bits. */
        int holding(int version) {
            int set = 0;
            for (int page = 0; page < book.pages(); page++) {
                if (holds(page, version)) {
                    set |= 1 << page;
                }
            }
            return set;
        }

        /** EXAMPLES that have USED a WORD in a VERSION, as bits. */
        int users(int word, int version) {
            int set = 0;
            for (int page = 0; page < book.pages(); page++) {
                if ((used(page, version) >> word & 1) == 1) {
                    set |= 1 << page;
                }
            }
            return set;
        }
    }

    /** SLIPS of VERSIONS and who notices them: learned ahead of being asked for, kept until something changes. */
    private static final class Slips {
        private final Book book;
        private final Outcomes outcomes;
        private final Reckoner reckoner;
        private final Text trial;
        private final int[] codes;
        private final boolean[] known;
        private final int[] noticers;

        Slips(Book book, Outcomes outcomes, Reckoner reckoner, Text trial) {
            this.book = book;
            this.outcomes = outcomes;
            this.reckoner = reckoner;
            this.trial = trial;
            codes = new int[MOST_SLIPS];
            known = new boolean[VERSIONS];
            noticers = new int[VERSIONS * MOST_SLIPS];
        }

        void forget() {
            for (int version = 0; version < VERSIONS; version++) {
                known[version] = false;
            }
        }

        /** Lists the SLIPS of a VERSION, for the calls that follow: how many. */
        int list(int version) {
            int count = 0;
            for (int word = 0; word < WORDS; word++) {
                Text text = book.text(version, word);
                for (int place = 0; place < text.count(); place++) {
                    if (Signs.slipped(text.sign(place)) != NONE && count < MOST_SLIPS) {
                        codes[count] = 100 * word + place;
                        count++;
                    }
                }
            }
            return count;
        }

        /** 100 times the WORD of a listed SLIP, and its place. */
        int code(int slip) {
            return slip >= 0 && slip < MOST_SLIPS ? codes[slip] : NONE;
        }

        /** Lists the SLIPS of a VERSION whose outcomes are known, and reckons who notices them: how many. */
        int learn(int version) {
            if (!book.hasVersion(version)) {
                return 0;
            }
            int count = list(version);
            if (!known[version]) {
                for (int slip = 0; slip < count; slip++) {
                    noticers[version * MOST_SLIPS + slip] = reckonNoticers(version, codes[slip] / 100, codes[slip] % 100);
                }
                known[version] = true;
            }
            return count;
        }

        /** EXAMPLES that notice a SLIP, as bits. */
        int noticers(int version, int slip) {
            if (!book.hasVersion(version) || slip < 0 || slip >= MOST_SLIPS) {
                return 0;
            }
            return noticers[version * MOST_SLIPS + slip];
        }

        private int reckonNoticers(int version, int word, int place) {
            // a SLIP in a WORD that an EXAMPLE does not use can not be noticed by it
            int asked = outcomes.holding(version) & outcomes.users(word, version);
            trial.become(book.text(version, word));
            trial.put(place, Signs.slipped(trial.sign(place)));
            reckoner.take(book, version);
            reckoner.replace(word, trial);
            int set = 0;
            for (int page = 0; page < book.pages(); page++) {
                if ((asked >> page & 1) == 1 && reckoner.outcome(book.example(page), 0) != book.due(page)) {
                    set |= 1 << page;
                }
            }
            return set;
        }
    }

    /** Sets of PAGES of each of which one is needed at least, and the fewest PAGES that do. */
    private static final class Needs {
        private final int[] sets;
        private int count;

        Needs() {
            sets = new int[MOST_SLIPS];
            count = 0;
        }

        void clear() {
            count = 0;
        }

        /** Takes a set, but for an empty one and one that is met whenever another one is. */
        void add(int set) {
            if (set == 0) {
                return;
            }
            for (int i = 0; i < count; i++) {
                if ((sets[i] & ~set) == 0) {
                    return;
                }
            }
            if (count < sets.length) {
                sets[count] = set;
                count++;
            }
        }

        /** The fewest of so many PAGES that meet all sets; of several the least as bits. */
        int fewest(int pages) {
            int best = (1 << pages) - 1;
            int fewest = pages;
            for (int set = 0; set < 1 << pages; set++) {
                int size = Integer.bitCount(set);
                if (size < fewest && isEnough(set)) {
                    best = set;
                    fewest = size;
                }
            }
            return best;
        }

        private boolean isEnough(int set) {
            for (int i = 0; i < count; i++) {
                if ((sets[i] & set) == 0) {
                    return false;
                }
            }
            return true;
        }
    }
}
