import java.util.ArrayList;
import java.util.HashMap;
import java.util.List;
import java.util.Map;
import java.util.TreeMap;
import java.util.TreeSet;

/**
 * The document once more, read for itself: trees of texts, sets tried one by one, rows of pages tried
 * one by one, nothing kept between calls. The random runs hold the class against it.
 */
final class PlainBook {
    static final int NONE = -6, UNKNOWN = -1, OUTSIDE = -2, STATE = -3, FULL = -4, NO = -5;

    /** Ends a reckoning with GONE or ENDLESS. */
    private static final class Stop extends RuntimeException {
        private static final long serialVersionUID = 1L;
        final int outcome;
        Stop(int outcome) { this.outcome = outcome; }
    }

    private static final class Faulty extends Exception {
        private static final long serialVersionUID = 1L;
        final int place;
        Faulty(int place) { this.place = place; }
    }

    private static final class Node {
        char sign;
        List<Node> parts = new ArrayList<>();
    }

    private static final class Page {
        int word = NONE;
        String text = "";
        int due = NONE;
        Page copy() { Page p = new Page(); p.word = word; p.text = text; p.due = due; return p; }
        boolean shows() { return word == NONE; }
    }

    private static final class Kept {
        List<Map<Character, String>> versions = new ArrayList<>();
        List<Page> pages = new ArrayList<>();
        Kept copy() {
            Kept k = new Kept();
            for (Map<Character, String> v : versions) k.versions.add(new HashMap<>(v));
            for (Page p : pages) k.pages.add(p.copy());
            return k;
        }
    }

    private String pad = "";
    private Kept now = new Kept();
    private final Kept[] images = new Kept[2];

    PlainBook() { now.versions.add(new HashMap<>()); }

    // ---- texts

    private static Node parse(String text) throws Faulty {
        int[] at = {0};
        Node node = parse(text, at, 0);
        if (at[0] < text.length()) throw new Faulty(at[0]);
        return node;
    }

    private static Node parse(String text, int[] at, int around) throws Faulty {
        if (at[0] == text.length()) throw new Faulty(text.length());
        char sign = text.charAt(at[0]);
        int parts;
        if ("0123456789x".indexOf(sign) >= 0) parts = 0;
        else if ("abcdefgh".indexOf(sign) >= 0) parts = 1;
        else if ("+-*m".indexOf(sign) >= 0) parts = 2;
        else if (sign == '?') parts = 3;
        else throw new Faulty(at[0]);
        if (parts > 0 && around == 6) throw new Faulty(at[0]);
        at[0]++;
        Node node = new Node();
        node.sign = sign;
        for (int i = 0; i < parts; i++) node.parts.add(parse(text, at, around + 1));
        return node;
    }

    private static int faultOf(String text) {
        try { parse(text); return NONE; } catch (Faulty f) { return f.place; }
    }

    private static Node whole(String text) {
        try { return parse(text); } catch (Faulty f) { throw new IllegalStateException(text); }
    }

    /** One reckoning. */
    private static final class Run {
        final Map<Character, String> words;
        final TreeSet<Character> used = new TreeSet<>();
        int given, open;
        Run(Map<Character, String> words) { this.words = words; }

        int of(String text, int x) {
            try { return at(whole(text), x); } catch (Stop s) { return s.outcome; }
        }

        int at(Node n, int x) {
            char s = n.sign;
            if (s == 'x') return x;
            if (Character.isDigit(s)) return s - '0';
            if (s == '?') return at(n.parts.get(0), x) == 0 ? at(n.parts.get(1), x) : at(n.parts.get(2), x);
            if (s >= 'a' && s <= 'h') {
                int arg = at(n.parts.get(0), x);
                String own = words.get(s);
                if (own == null) { used.add(s); throw new Stop(-10); }
                if (given == 300 || open == 20) throw new Stop(-11);
                used.add(s);
                given++;
                open++;
                int answer = at(whole(own), arg);
                open--;
                return answer;
            }
            int a = at(n.parts.get(0), x), b = at(n.parts.get(1), x);
            if (s == '+') return (a + b) % 1000;
            if (s == '-') return (a - b + 1000) % 1000;
            if (s == '*') return a * b % 1000;
            return a < b ? a : b;
        }
    }

    private static int outcome(String text, Map<Character, String> words) { return new Run(words).of(text, 0); }

    private boolean isVersion(int v) { return v >= 0 && v < now.versions.size(); }
    private boolean isPage(int p) { return p >= 0 && p < now.pages.size(); }
    private boolean isExample(int p) { return isPage(p) && now.pages.get(p).shows(); }
    private static boolean isWord(int w) { return w >= 0 && w < 8; }
    private static boolean isNumber(int n) { return n >= 0 && n < 1000; }
    private boolean holds(int p, int v) { return holds(p, now.versions.get(v)); }
    private boolean holds(int p, Map<Character, String> words) {
        Page page = now.pages.get(p);
        return page.shows() && outcome(page.text, words) == page.due;
    }

    // ---- 1

    int say(int sign) {
        if (sign < 33 || sign > 126) return OUTSIDE;
        if (pad.length() == 40) return FULL;
        pad += (char) sign;
        return pad.length();
    }

    int wipe() { int n = pad.length(); pad = ""; return n; }

    int fault() { return faultOf(pad); }

    int version() {
        if (now.versions.size() == 6) return FULL;
        now.versions.add(new HashMap<>(now.versions.get(now.versions.size() - 1)));
        return now.versions.size() - 1;
    }

    int word(int word) {
        if (!isWord(word)) return UNKNOWN;
        if (!pad.isEmpty() && fault() != NONE) return NO;
        Map<Character, String> last = now.versions.get(now.versions.size() - 1);
        if (pad.isEmpty()) last.remove((char) ('a' + word)); else last.put((char) ('a' + word), pad);
        return wipe();
    }

    int written(int version, int word, int i) {
        if (!isVersion(version) || !isWord(word)) return UNKNOWN;
        String text = now.versions.get(version).getOrDefault((char) ('a' + word), "");
        if (i == -1) return text.length();
        return i < 0 || i >= text.length() ? NONE : text.charAt(i);
    }

    int comes(int version, int given) {
        if (!isVersion(version)) return UNKNOWN;
        if (!isNumber(given)) return OUTSIDE;
        if (fault() != NONE) return NO;
        return new Run(now.versions.get(version)).of(pad, given);
    }

    // ---- 2

    int tells(int word) {
        if (!isWord(word)) return UNKNOWN;
        if (now.pages.size() == 12) return FULL;
        Page p = new Page();
        p.word = word;
        now.pages.add(p);
        return now.pages.size() - 1;
    }

    int shows(int due) {
        if (!isNumber(due)) return OUTSIDE;
        if (now.pages.size() == 12) return FULL;
        if (fault() != NONE || pad.indexOf('x') >= 0) return NO;
        Page p = new Page();
        p.text = pad;
        p.due = due;
        now.pages.add(p);
        pad = "";
        return now.pages.size() - 1;
    }

    private int named(int p) {
        int set = 0;
        for (char c : now.pages.get(p).text.toCharArray()) if (c >= 'a' && c <= 'h') set |= 1 << (c - 'a');
        return set;
    }

    int page(int page, int what) {
        if (!isPage(page)) return UNKNOWN;
        if (what < 0 || what > 3) return OUTSIDE;
        Page p = now.pages.get(page);
        if (what == 0) return p.word;
        if (what == 1) return p.due;
        if (what == 2) return named(page);
        return p.text.length();
    }

    private int used(int p, int v) {
        Run run = new Run(now.versions.get(v));
        run.of(now.pages.get(p).text, 0);
        int set = 0;
        for (char c : run.used) set |= 1 << (c - 'a');
        return set;
    }

    int held(int page, int version, int what) {
        if (!isExample(page) || !isVersion(version)) return UNKNOWN;
        if (what < 0 || what > 2) return OUTSIDE;
        if (what == 0) return outcome(now.pages.get(page).text, now.versions.get(version));
        if (what == 1) return holds(page, version) ? 1 : 0;
        return used(page, version);
    }

    int stale(int page) {
        if (!isExample(page)) return UNKNOWN;
        for (int v = 0; v < now.versions.size(); v++)
            for (int u = 0; u < v; u++)
                if (holds(page, u) && !holds(page, v)) return v;
        return NONE;
    }

    /** All sets of so many things, fewest first, of as many the least first. */
    private static List<Integer> sets(int things) {
        List<Integer> sets = new ArrayList<>();
        for (int s = 0; s < 1 << things; s++) sets.add(s);
        sets.sort((a, b) -> Integer.bitCount(a) != Integer.bitCount(b) ? Integer.bitCount(a) - Integer.bitCount(b) : a - b);
        return sets;
    }

    int blame(int page, int version) {
        if (!isExample(page) || !isVersion(version)) return UNKNOWN;
        if (version == 0 || holds(page, version)) return STATE;
        for (int set : sets(8)) {
            Map<Character, String> words = new HashMap<>(now.versions.get(version));
            for (char c = 'a'; c <= 'h'; c++) {
                if ((set >> (c - 'a') & 1) == 1) {
                    String was = now.versions.get(version - 1).get(c);
                    if (was == null) words.remove(c); else words.put(c, was);
                }
            }
            if (holds(page, words)) return set;
        }
        return NO;
    }

    // ---- 3

    private int early(List<Integer> row) {
        int early = 0;
        for (int i = 0; i < row.size(); i++) {
            int named = named(row.get(i));
            for (int j = 0; j < i; j++) {
                int told = now.pages.get(row.get(j)).word;
                if (told != NONE) named &= ~(1 << told);
            }
            early += Integer.bitCount(named);
        }
        return early;
    }

    private int leastEarly;
    private List<Integer> bestRow;

    /** Tries all rows in the order of their numbers. */
    private void tryRows(List<Integer> row) {
        if (row.size() == now.pages.size()) {
            int early = early(row);
            if (early < leastEarly) { leastEarly = early; bestRow = new ArrayList<>(row); }
            return;
        }
        for (int p = 0; p < now.pages.size(); p++) {
            if (!row.contains(p)) {
                row.add(p);
                tryRows(row);
                row.remove(row.size() - 1);
            }
        }
    }

    /** For more pages than rows can be tried of: the least that the rest costs behind each set of pages. */
    private void stepRows() {
        int n = now.pages.size();
        int[] rest = new int[1 << n];
        int[] next = new int[1 << n];
        for (int set = (1 << n) - 2; set >= 0; set--) {
            rest[set] = Integer.MAX_VALUE;
            for (int p = 0; p < n; p++) {
                if ((set >> p & 1) == 1) continue;
                int named = named(p);
                for (int q = 0; q < n; q++) {
                    int told = now.pages.get(q).word;
                    if ((set >> q & 1) == 1 && told != NONE) named &= ~(1 << told);
                }
                int cost = Integer.bitCount(named) + rest[set | 1 << p];
                if (cost < rest[set]) { rest[set] = cost; next[set] = p; }
            }
        }
        leastEarly = rest[0];
        bestRow = new ArrayList<>();
        for (int set = 0; bestRow.size() < n; set |= 1 << next[set]) bestRow.add(next[set]);
    }

    int order(int what) {
        List<Integer> stands = new ArrayList<>();
        for (int p = 0; p < now.pages.size(); p++) stands.add(p);
        if (what == -1) return early(stands);
        if (what < -2 || what >= now.pages.size()) return NONE;
        leastEarly = Integer.MAX_VALUE;
        if (now.pages.size() <= 5) tryRows(new ArrayList<>()); else stepRows();
        return what == -2 ? leastEarly : bestRow.get(what);
    }

    /** The first set that has of each of the sets that are not empty one at least. */
    private int least(Iterable<Integer> needs) {
        for (int set : sets(now.pages.size())) {
            boolean all = true;
            for (int need : needs) all &= need == 0 || (need & set) != 0;
            if (all) return set;
        }
        throw new IllegalStateException();
    }

    int cover(int version) {
        if (!isVersion(version)) return UNKNOWN;
        int[] uses = new int[now.pages.size()];
        int all = 0;
        for (int p = 0; p < uses.length; p++) if (isExample(p)) all |= uses[p] = used(p, version);
        for (int set : sets(uses.length)) {
            int together = 0;
            for (int p = 0; p < uses.length; p++) if ((set >> p & 1) == 1) together |= uses[p];
            if (together == all) return set;
        }
        throw new IllegalStateException();
    }

    int apart() {
        List<Integer> needs = new ArrayList<>();
        for (int v = 0; v < now.versions.size(); v++) {
            for (int u = 0; u < v; u++) {
                int tell = 0;
                for (int p = 0; p < now.pages.size(); p++) if (holds(p, u) != holds(p, v)) tell |= 1 << p;
                needs.add(tell);
            }
        }
        return least(needs);
    }

    private static char slipped(char sign) {
        switch (sign) {
            case '+': return '-';
            case '-': return '+';
            case '*': return '+';
            case 'm': return '+';
            case 'x': return '0';
            default: return "1234567890".charAt(sign - '0');
        }
    }

    /** Each SLIP's number as told and the words with it. */
    private Map<Integer, Map<Character, String>> slipsOf(int version) {
        Map<Integer, Map<Character, String>> slips = new TreeMap<>();
        Map<Character, String> words = now.versions.get(version);
        for (char c = 'a'; c <= 'h'; c++) {
            String text = words.getOrDefault(c, "");
            for (int i = 0; i < text.length(); i++) {
                if ("abcdefgh?".indexOf(text.charAt(i)) >= 0) continue;
                Map<Character, String> changed = new HashMap<>(words);
                changed.put(c, text.substring(0, i) + slipped(text.charAt(i)) + text.substring(i + 1));
                slips.put(100 * (c - 'a') + i, changed);
            }
        }
        return slips;
    }

    private List<Integer> noticers(int version) {
        List<Integer> all = new ArrayList<>();
        for (Map<Character, String> words : slipsOf(version).values()) {
            int set = 0;
            for (int p = 0; p < now.pages.size(); p++) if (holds(p, version) && !holds(p, words)) set |= 1 << p;
            all.add(set);
        }
        return all;
    }

    int slip(int version, int i) {
        if (!isVersion(version)) return UNKNOWN;
        List<Integer> codes = new ArrayList<>(slipsOf(version).keySet());
        if (i == -1) return codes.size();
        return i < 0 || i >= codes.size() ? NONE : codes.get(i);
    }

    int noticed(int version, int slip) {
        if (!isVersion(version)) return UNKNOWN;
        List<Integer> all = noticers(version);
        return slip < 0 || slip >= all.size() ? OUTSIDE : all.get(slip);
    }

    int unshown(int version, int i) {
        if (!isVersion(version)) return UNKNOWN;
        List<Integer> all = noticers(version);
        List<Integer> unshown = new ArrayList<>();
        for (int s = 0; s < all.size(); s++) if (all.get(s) == 0) unshown.add(s);
        if (i == -1) return unshown.size();
        return i < 0 || i >= unshown.size() ? NONE : unshown.get(i);
    }

    int notice(int version) {
        if (!isVersion(version)) return UNKNOWN;
        return least(new TreeSet<>(noticers(version)));
    }

    // ---- 4

    int mend(int page, int version) {
        if (!isExample(page) || !isVersion(version)) return UNKNOWN;
        int outcome = held(page, version, 0);
        if (outcome < 0) return NO;
        int was = now.pages.get(page).due;
        now.pages.get(page).due = outcome;
        return was;
    }

    int instead(int page, int version) {
        if (!isExample(page) || !isVersion(version)) return UNKNOWN;
        Page p = now.pages.get(page);
        for (int i = 0; i < p.text.length(); i++) {
            if ("abcdefgh".indexOf(p.text.charAt(i)) < 0) continue;
            for (char c = 'a'; c <= 'h'; c++) {
                String other = p.text.substring(0, i) + c + p.text.substring(i + 1);
                if (c != p.text.charAt(i) && outcome(other, now.versions.get(version)) == p.due) return 10 * i + c - 'a';
            }
        }
        return NONE;
    }

    int image(int n) {
        if (n != 0 && n != 1) return OUTSIDE;
        images[n] = now.copy();
        return 1;
    }

    int restore(int n) {
        if (n != 0 && n != 1) return OUTSIDE;
        if (images[n] == null) return STATE;
        now = images[n].copy();
        return 1;
    }

    int told(int what) {
        if (what < 0 || what > 3) return OUTSIDE;
        if (what == 0) return pad.length();
        if (what == 1) return now.versions.size();
        if (what == 2) return now.pages.size();
        int set = 0;
        for (int p = 0; p < now.pages.size(); p++) if (isExample(p)) set |= 1 << p;
        return set;
    }
}
