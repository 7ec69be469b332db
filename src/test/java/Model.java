import java.util.ArrayList;
import java.util.Arrays;
import java.util.List;
import java.util.NoSuchElementException;
import java.util.StringTokenizer;

/**
 * The document once more, by the Java library's own rows of signs: its exceptions tell where a place is wrong.
 * It shares nothing with the class that it is held beside.
 */
public final class Model {
    private static final int NONE = -1, UNKNOWN = -1001, OUTSIDE = -1002, MISSING = -1003, COUNT = -1004;
    private static final int PLACE = -1005, ENDED = -1006, FULL = -1007;

    private interface Change {
        void of(StringBuilder row);
    }

    private final StringBuilder[] builders = new StringBuilder[4];
    private final String[] texts = new String[8];
    private final StringTokenizer[] cutters = new StringTokenizer[2];
    private List<String> parts = new ArrayList<>();

    public Model() {
        for (int b = 0; b < 4; b++) {
            builders[b] = new StringBuilder();
        }
    }

    private static boolean noBuilder(int b) {
        return b < 0 || b > 3;
    }

    private static boolean noText(int t) {
        return t < 0 || t > 7;
    }

    private static boolean noCutter(int c) {
        return c < 0 || c > 1;
    }

    private static boolean noSign(int sign) {
        return sign < 0 || sign > 255;
    }

    private int change(int b, Change change) {
        StringBuilder row = new StringBuilder(builders[b]);
        try {
            change.of(row);
        } catch (IndexOutOfBoundsException e) {
            return PLACE;
        }
        if (row.length() > 200) {
            return FULL;
        }
        builders[b] = row;
        return row.length();
    }

    private int keep(int t, String row) {
        if (row.length() > 200) {
            return FULL;
        }
        texts[t] = row;
        return row.length();
    }

    public int sign(int b, int sign) {
        return noBuilder(b) ? UNKNOWN : noSign(sign) ? OUTSIDE : change(b, row -> row.append((char) sign));
    }

    public int signs(int b, int n, long letters) {
        if (noBuilder(b)) {
            return UNKNOWN;
        }
        if (n < 0 || n > 8) {
            return OUTSIDE;
        }
        StringBuilder all = new StringBuilder();
        for (int i = 0; i < 8; i++) {
            all.insert(0, (char) (letters >> 8 * i & 255));
        }
        return change(b, row -> row.append(all.substring(8 - n)));
    }

    public int text(int b, int t) {
        return noBuilder(b) || noText(t) ? UNKNOWN : change(b, row -> row.append(texts[t]));
    }

    public int part(int b, int t, int from, int to) {
        return noBuilder(b) || noText(t) ? UNKNOWN : change(b, row -> row.append((CharSequence) texts[t], from, to));
    }

    public int number(int b, long v) {
        return noBuilder(b) ? UNKNOWN : change(b, row -> row.append(v));
    }

    public int insert(int b, int at, int t) {
        return noBuilder(b) || noText(t) ? UNKNOWN : change(b, row -> row.insert(at, texts[t]));
    }

    public int insertPart(int b, int at, int t, int from, int to) {
        return noBuilder(b) || noText(t) ? UNKNOWN
                : change(b, row -> row.insert(at, (CharSequence) texts[t], from, to));
    }

    public int insertSign(int b, int at, int sign) {
        return noBuilder(b) ? UNKNOWN : noSign(sign) ? OUTSIDE : change(b, row -> row.insert(at, (char) sign));
    }

    public int delete(int b, int from, int to) {
        return noBuilder(b) ? UNKNOWN : change(b, row -> row.delete(from, to));
    }

    public int deleteAt(int b, int at) {
        return noBuilder(b) ? UNKNOWN : change(b, row -> row.deleteCharAt(at));
    }

    public int replace(int b, int from, int to, int t) {
        if (noBuilder(b) || noText(t)) {
            return UNKNOWN;
        }
        return texts[t] == null ? MISSING : change(b, row -> row.replace(from, to, texts[t]));
    }

    public int reverse(int b) {
        return noBuilder(b) ? UNKNOWN : change(b, StringBuilder::reverse);
    }

    public int put(int b, int at, int sign) {
        if (noBuilder(b)) {
            return UNKNOWN;
        }
        if (noSign(sign)) {
            return OUTSIDE;
        }
        int old = at(b, at);
        if (old >= 0) {
            builders[b].setCharAt(at, (char) sign);
        }
        return old;
    }

    public int length(int b, int n) {
        if (noBuilder(b)) {
            return UNKNOWN;
        }
        if (n < 0 || n > 200) {
            return n < 0 ? COUNT : FULL;
        }
        int old = builders[b].length();
        builders[b].setLength(n);
        return old;
    }

    public int at(int b, int at) {
        return noBuilder(b) ? UNKNOWN : charAt(builders[b], at);
    }

    private static int charAt(CharSequence row, int at) {
        try {
            return row.charAt(at);
        } catch (IndexOutOfBoundsException e) {
            return PLACE;
        }
    }

    public int size(int b) {
        return noBuilder(b) ? UNKNOWN : builders[b].length();
    }

    public int first(int b, int t, int from) {
        if (noBuilder(b) || noText(t)) {
            return UNKNOWN;
        }
        return texts[t] == null ? MISSING : builders[b].indexOf(texts[t], from);
    }

    public int last(int b, int t, int from) {
        if (noBuilder(b) || noText(t)) {
            return UNKNOWN;
        }
        return texts[t] == null ? MISSING : builders[b].lastIndexOf(texts[t], from);
    }

    public int take(int b, int from, int to, int t) {
        return noBuilder(b) || noText(t) ? UNKNOWN : cut(builders[b].toString(), from, to, t);
    }

    private int cut(String row, int from, int to, int t) {
        try {
            return keep(t, row.substring(from, to));
        } catch (IndexOutOfBoundsException e) {
            return PLACE;
        }
    }

    public int ahead(int b, int c) {
        return noBuilder(b) || noBuilder(c) ? UNKNOWN : Integer.signum(builders[b].compareTo(builders[c]));
    }

    public int forget(int t) {
        if (noText(t)) {
            return UNKNOWN;
        }
        int was = texts[t] == null ? 0 : 1;
        texts[t] = null;
        return was;
    }

    public int textSize(int t) {
        return noText(t) ? UNKNOWN : texts[t] == null ? NONE : texts[t].length();
    }

    public int signAt(int t, int at) {
        return noText(t) ? UNKNOWN : texts[t] == null ? MISSING : charAt(texts[t], at);
    }

    public int firstSign(int t, int sign, int from) {
        if (noText(t) || noSign(sign)) {
            return noText(t) ? UNKNOWN : OUTSIDE;
        }
        return texts[t] == null ? MISSING : texts[t].indexOf(sign, from);
    }

    public int lastSign(int t, int sign, int from) {
        if (noText(t) || noSign(sign)) {
            return noText(t) ? UNKNOWN : OUTSIDE;
        }
        return texts[t] == null ? MISSING : texts[t].lastIndexOf(sign, from);
    }

    /** The refusal of texts of which none may be missing; 0: there is none. */
    private int refusal(int... all) {
        for (int t : all) {
            if (noText(t)) {
                return UNKNOWN;
            }
        }
        for (int t : all) {
            if (texts[t] == null) {
                return MISSING;
            }
        }
        return 0;
    }

    public int firstText(int t, int u, int from) {
        return refusal(t, u) != 0 ? refusal(t, u) : texts[t].indexOf(texts[u], from);
    }

    public int lastText(int t, int u, int from) {
        return refusal(t, u) != 0 ? refusal(t, u) : texts[t].lastIndexOf(texts[u], from);
    }

    public int region(int t, int at, int u, int from, int n) {
        return refusal(t, u) != 0 ? refusal(t, u) : texts[t].regionMatches(at, texts[u], from, n) ? 1 : 0;
    }

    public int order(int t, int u) {
        return refusal(t, u) != 0 ? refusal(t, u) : texts[t].compareTo(texts[u]);
    }

    public int begins(int t, int u, int at) {
        return refusal(t, u) != 0 ? refusal(t, u) : texts[t].startsWith(texts[u], at) ? 1 : 0;
    }

    public int swap(int t, int old, int with, int into) {
        if (noText(t) || noText(into)) {
            return UNKNOWN;
        }
        if (noSign(old) || noSign(with)) {
            return OUTSIDE;
        }
        return texts[t] == null ? MISSING : keep(into, texts[t].replace((char) old, (char) with));
    }

    public int sub(int t, int from, int to, int into) {
        if (noText(t) || noText(into)) {
            return UNKNOWN;
        }
        return texts[t] == null ? MISSING : cut(texts[t], from, to, into);
    }

    public int trim(int t, int into) {
        if (noText(t) || noText(into)) {
            return UNKNOWN;
        }
        return texts[t] == null ? MISSING : keep(into, texts[t].trim());
    }

    public int repeat(int t, int n, int into) {
        if (noText(t) || noText(into)) {
            return UNKNOWN;
        }
        if (texts[t] == null || n < 0) {
            return texts[t] == null ? MISSING : COUNT;
        }
        return (long) n * texts[t].length() > 200 ? FULL : keep(into, texts[t].repeat(n));
    }

    public int join(int t, int u, int into) {
        if (noText(into)) {
            return UNKNOWN;
        }
        return refusal(t, u) != 0 ? refusal(t, u) : keep(into, texts[t].concat(texts[u]));
    }

    public int split(int t, int sign, int limit) {
        if (noText(t)) {
            return UNKNOWN;
        }
        if (noSign(sign) || "$()*+.?[\\^{|".indexOf(sign) >= 0) {
            return OUTSIDE;
        }
        if (texts[t] == null) {
            return MISSING;
        }
        parts = Arrays.asList(texts[t].split(String.valueOf((char) sign), limit));
        return parts.size();
    }

    public int parts() {
        return parts.size();
    }

    public int partTo(int k, int t) {
        return noText(t) ? UNKNOWN : k < 0 || k >= parts.size() ? NONE : keep(t, parts.get(k));
    }

    public int joined(int sign, int t) {
        if (noText(t) || noSign(sign)) {
            return noText(t) ? UNKNOWN : OUTSIDE;
        }
        return keep(t, String.join(String.valueOf((char) sign), parts));
    }

    public int cutter(int c, int t, int u, boolean gives) {
        if (noCutter(c)) {
            return UNKNOWN;
        }
        if (refusal(t, u) != 0) {
            return refusal(t, u);
        }
        cutters[c] = new StringTokenizer(texts[t], texts[u], gives);
        return cutters[c].countTokens();
    }

    public int more(int c) {
        return noCutter(c) ? UNKNOWN : cutters[c] == null ? MISSING : cutters[c].hasMoreTokens() ? 1 : 0;
    }

    public int left(int c) {
        return noCutter(c) ? UNKNOWN : cutters[c] == null ? MISSING : cutters[c].countTokens();
    }

    public int next(int c, int t) {
        if (noCutter(c) || noText(t)) {
            return UNKNOWN;
        }
        if (cutters[c] == null) {
            return MISSING;
        }
        try {
            return keep(t, cutters[c].nextToken());
        } catch (NoSuchElementException e) {
            cutters[c] = null;
            return ENDED;
        }
    }

    public int nextBy(int c, int u, int t) {
        if (noCutter(c) || noText(u) || noText(t)) {
            return UNKNOWN;
        }
        if (cutters[c] == null || texts[u] == null) {
            return MISSING;
        }
        try {
            return keep(t, cutters[c].nextToken(texts[u]));
        } catch (NoSuchElementException e) {
            cutters[c] = null;
            return ENDED;
        }
    }

    public long digest() {
        long h = 17;
        for (StringBuilder builder : builders) {
            h = mixed(h, builder.toString());
        }
        for (String text : texts) {
            h = text == null ? 31 * h - 1 : mixed(h, text);
        }
        h = 31 * h + parts.size();
        for (String part : parts) {
            h = mixed(h, part);
        }
        for (StringTokenizer cutter : cutters) {
            h = 31 * h + (cutter == null ? -1 : cutter.countTokens());
        }
        return h;
    }

    private static long mixed(long h, String row) {
        long all = 31 * h + row.length();
        for (char sign : row.toCharArray()) {
            all = 31 * all + sign;
        }
        return all;
    }
}
