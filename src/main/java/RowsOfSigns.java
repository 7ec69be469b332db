/** Builders, texts, the parts of a text, and cutters: all of them rows of the numbers 0 to 255. */
public final class RowsOfSigns {
    public static final int NONE = -1;
    public static final int UNKNOWN = -1001, OUTSIDE = -1002, MISSING = -1003, COUNT = -1004, PLACE = -1005, ENDED = -1006, FULL = -1007;

    private static final int BUILDERS = 4;
    private static final int TEXTS = 8;
    private static final int CUTTERS = 2;
    private static final int MOST_SIGNS = 200;
    private static final int MOST_PARTS = MOST_SIGNS + 1;
    private static final int KINDS_OF_SIGN = 256;
    private static final int MOST_BYTES = 8;
    private static final int MOST_FIGURES = 19;
    private static final int FIGURE_ZERO = 48;
    private static final int MINUS = 45;
    private static final int LAST_BLANK = 32;
    private static final int[] THE_FOUR = {110, 117, 108, 108};
    private static final int[] NO_SEPARATORS = {36, 40, 41, 42, 43, 46, 63, 91, 92, 94, 123, 124};

    private final Row[] builders = new Row[BUILDERS];
    private final Text[] texts = new Text[TEXTS];
    private final Cutter[] cutters = new Cutter[CUTTERS];
    private final Parts pieces = new Parts();
    private final Row four = new Row();

    // What a call puts together before it knows whether it may: kept, so that no call makes an object.
    private final Row spare = new Row();

    public RowsOfSigns() {
        for (int b = 0; b < builders.length; b++) {
            builders[b] = new Row();
        }
        for (int t = 0; t < texts.length; t++) {
            texts[t] = new Text();
        }
        for (int c = 0; c < cutters.length; c++) {
            cutters[c] = new Cutter();
        }
        for (int i = 0; i < THE_FOUR.length; i++) {
            four.add(THE_FOUR[i]);
        }
    }

    // ---- builders

    public int sign(int b, int sign) {
        Row builder = builderOf(b);
        if (builder == null) {
            return UNKNOWN;
        }
        if (!isSign(sign)) {
            return OUTSIDE;
        }
        return builder.joinIn(builder.size, single(sign));
    }

    public int signs(int b, int n, long letters) {
        Row builder = builderOf(b);
        if (builder == null) {
            return UNKNOWN;
        }
        if (n < 0 || n > MOST_BYTES) {
            return OUTSIDE;
        }
        return builder.joinIn(builder.size, lowBytes(n, letters));
    }

    public int text(int b, int t) {
        Row builder = builderOf(b);
        Row told = textOrFour(t);
        if (builder == null || told == null) {
            return UNKNOWN;
        }
        return builder.joinIn(builder.size, told);
    }

    public int part(int b, int t, int from, int to) {
        Row builder = builderOf(b);
        Row told = textOrFour(t);
        if (builder == null || told == null) {
            return UNKNOWN;
        }
        return builder.change(builder.size, builder.size, told, from, to);
    }

    public int number(int b, long v) {
        Row builder = builderOf(b);
        if (builder == null) {
            return UNKNOWN;
        }
        return builder.joinIn(builder.size, figures(v));
    }

    public int insert(int b, int at, int t) {
        Row builder = builderOf(b);
        Row told = textOrFour(t);
        if (builder == null || told == null) {
            return UNKNOWN;
        }
        return builder.joinIn(at, told);
    }

    public int insertPart(int b, int at, int t, int from, int to) {
        Row builder = builderOf(b);
        Row told = textOrFour(t);
        if (builder == null || told == null) {
            return UNKNOWN;
        }
        return builder.change(at, at, told, from, to);
    }

    public int insertSign(int b, int at, int sign) {
        Row builder = builderOf(b);
        if (builder == null) {
            return UNKNOWN;
        }
        if (!isSign(sign)) {
            return OUTSIDE;
        }
        return builder.joinIn(at, single(sign));
    }

    public int delete(int b, int from, int to) {
        Row builder = builderOf(b);
        if (builder == null) {
            return UNKNOWN;
        }
        return builder.exchange(from, to, nothing());
    }

    public int deleteAt(int b, int at) {
        Row builder = builderOf(b);
        if (builder == null) {
            return UNKNOWN;
        }
        if (!builder.holds(at)) {
            return PLACE;
        }
        return builder.exchange(at, at + 1, nothing());
    }

    public int replace(int b, int from, int to, int t) {
        Row builder = builderOf(b);
        Text text = textOf(t);
        if (builder == null || text == null) {
            return UNKNOWN;
        }
        if (text.missing) {
            return MISSING;
        }
        return builder.exchange(from, to, text.row);
    }

    public int reverse(int b) {
        Row builder = builderOf(b);
        if (builder == null) {
            return UNKNOWN;
        }
        builder.turnRound();
        return builder.size;
    }

    public int put(int b, int at, int sign) {
        Row builder = builderOf(b);
        if (builder == null) {
            return UNKNOWN;
        }
        if (!isSign(sign)) {
            return OUTSIDE;
        }
        if (!builder.holds(at)) {
            return PLACE;
        }
        int old = builder.signThere(at);
        builder.write(at, sign);
        return old;
    }

    public int length(int b, int n) {
        Row builder = builderOf(b);
        if (builder == null) {
            return UNKNOWN;
        }
        if (n < 0) {
            return COUNT;
        }
        if (n > MOST_SIGNS) {
            return FULL;
        }
        int old = builder.size;
        builder.resize(n);
        return old;
    }

    public int at(int b, int at) {
        Row builder = builderOf(b);
        if (builder == null) {
            return UNKNOWN;
        }
        return builder.holds(at) ? builder.signThere(at) : PLACE;
    }

    public int size(int b) {
        Row builder = builderOf(b);
        return builder == null ? UNKNOWN : builder.size;
    }

    public int first(int b, int t, int from) {
        Row builder = builderOf(b);
        Text text = textOf(t);
        if (builder == null || text == null) {
            return UNKNOWN;
        }
        return text.missing ? MISSING : builder.findForward(text.row, from);
    }

    public int last(int b, int t, int from) {
        Row builder = builderOf(b);
        Text text = textOf(t);
        if (builder == null || text == null) {
            return UNKNOWN;
        }
        return text.missing ? MISSING : builder.findBackward(text.row, from);
    }

    public int take(int b, int from, int to, int t) {
        Row builder = builderOf(b);
        Text text = textOf(t);
        if (builder == null || text == null) {
            return UNKNOWN;
        }
        return text.become(builder, from, to);
    }

    public int ahead(int b, int c) {
        Row one = builderOf(b);
        Row other = builderOf(c);
        if (one == null || other == null) {
            return UNKNOWN;
        }
        return Integer.compare(one.against(other), 0);
    }

    // ---- texts

    public int forget(int t) {
        Text text = textOf(t);
        if (text == null) {
            return UNKNOWN;
        }
        if (text.missing) {
            return 0;
        }
        text.missing = true;
        return 1;
    }

    public int textSize(int t) {
        Text text = textOf(t);
        if (text == null) {
            return UNKNOWN;
        }
        return text.missing ? NONE : text.row.size;
    }

    public int signAt(int t, int at) {
        Text text = textOf(t);
        if (text == null) {
            return UNKNOWN;
        }
        if (text.missing) {
            return MISSING;
        }
        return text.row.holds(at) ? text.row.signThere(at) : PLACE;
    }

    public int firstSign(int t, int sign, int from) {
        Text text = textOf(t);
        if (text == null) {
            return UNKNOWN;
        }
        if (!isSign(sign)) {
            return OUTSIDE;
        }
        return text.missing ? MISSING : text.row.signForward(sign, from);
    }

    public int lastSign(int t, int sign, int from) {
        Text text = textOf(t);
        if (text == null) {
            return UNKNOWN;
        }
        if (!isSign(sign)) {
            return OUTSIDE;
        }
        return text.missing ? MISSING : text.row.signBackward(sign, from);
    }

    public int firstText(int t, int u, int from) {
        Text text = textOf(t);
        Text sought = textOf(u);
        if (text == null || sought == null) {
            return UNKNOWN;
        }
        if (text.missing || sought.missing) {
            return MISSING;
        }
        return text.row.findForward(sought.row, from);
    }

    public int lastText(int t, int u, int from) {
        Text text = textOf(t);
        Text sought = textOf(u);
        if (text == null || sought == null) {
            return UNKNOWN;
        }
        if (text.missing || sought.missing) {
            return MISSING;
        }
        return text.row.findBackward(sought.row, from);
    }

    public int region(int t, int at, int u, int from, int n) {
        Text text = textOf(t);
        Text other = textOf(u);
        if (text == null || other == null) {
            return UNKNOWN;
        }
        if (text.missing || other.missing) {
            return MISSING;
        }
        return text.row.sameRegion(at, other.row, from, n) ? 1 : 0;
    }

    public int order(int t, int u) {
        Text text = textOf(t);
        Text other = textOf(u);
        if (text == null || other == null) {
            return UNKNOWN;
        }
        if (text.missing || other.missing) {
            return MISSING;
        }
        return text.row.against(other.row);
    }

    public int begins(int t, int u, int at) {
        Text text = textOf(t);
        Text sought = textOf(u);
        if (text == null || sought == null) {
            return UNKNOWN;
        }
        if (text.missing || sought.missing) {
            return MISSING;
        }
        return text.row.hasStanding(sought.row, at) ? 1 : 0;
    }

    public int swap(int t, int old, int with, int into) {
        Text text = textOf(t);
        Text made = textOf(into);
        if (text == null || made == null) {
            return UNKNOWN;
        }
        if (!isSign(old) || !isSign(with)) {
            return OUTSIDE;
        }
        if (text.missing) {
            return MISSING;
        }
        made.become(text.row, 0, text.row.size);
        made.row.writeEach(old, with);
        return made.row.size;
    }

    public int sub(int t, int from, int to, int into) {
        Text text = textOf(t);
        Text made = textOf(into);
        if (text == null || made == null) {
            return UNKNOWN;
        }
        return text.missing ? MISSING : made.become(text.row, from, to);
    }

    public int trim(int t, int into) {
        Text text = textOf(t);
        Text made = textOf(into);
        if (text == null || made == null) {
            return UNKNOWN;
        }
        if (text.missing) {
            return MISSING;
        }
        int from = text.row.blanksAhead();
        return made.become(text.row, from, text.row.endBeforeBlanks(from));
    }

    public int repeat(int t, int n, int into) {
        Text text = textOf(t);
        Text made = textOf(into);
        if (text == null || made == null) {
            return UNKNOWN;
        }
        if (text.missing) {
            return MISSING;
        }
        if (n < 0) {
            return COUNT;
        }
        if ((long) n * text.row.size > MOST_SIGNS) {
            return FULL;
        }
        Row times = nothing();
        // An empty row may be wanted any number of times: one round for each sign is enough then.
        int rounds = Math.min(n, MOST_SIGNS);
        for (int i = 0; i < rounds; i++) {
            times.joinIn(times.size, text.row);
        }
        return made.become(times, 0, times.size);
    }

    public int join(int t, int u, int into) {
        Text text = textOf(t);
        Text other = textOf(u);
        Text made = textOf(into);
        if (text == null || other == null || made == null) {
            return UNKNOWN;
        }
        if (text.missing || other.missing) {
            return MISSING;
        }
        Row both = nothing();
        both.joinIn(0, text.row);
        int answer = both.joinIn(both.size, other.row);
        return answer < 0 ? answer : made.become(both, 0, both.size);
    }

    // ---- parts

    public int split(int t, int sign, int limit) {
        Text text = textOf(t);
        if (text == null) {
            return UNKNOWN;
        }
        if (!isSeparator(sign)) {
            return OUTSIDE;
        }
        if (text.missing) {
            return MISSING;
        }
        pieces.fall(text.row, sign, limit);
        return pieces.count;
    }

    public int parts() {
        return pieces.count;
    }

    public int partTo(int k, int t) {
        Text text = textOf(t);
        if (text == null) {
            return UNKNOWN;
        }
        if (!pieces.has(k)) {
            return NONE;
        }
        return text.become(pieces.whole, pieces.start(k), pieces.end(k));
    }

    public int joined(int sign, int t) {
        Text text = textOf(t);
        if (text == null) {
            return UNKNOWN;
        }
        if (!isSign(sign)) {
            return OUTSIDE;
        }
        Row all = nothing();
        for (int k = 0; k < pieces.count; k++) {
            if (k > 0) {
                all.add(sign);
            }
            all.change(all.size, all.size, pieces.whole, pieces.start(k), pieces.end(k));
        }
        return text.become(all, 0, all.size);
    }

    // ---- cutters

    public int cutter(int c, int t, int u, boolean gives) {
        Cutter cutter = cutterOf(c);
        Text text = textOf(t);
        Text separators = textOf(u);
        if (cutter == null || text == null || separators == null) {
            return UNKNOWN;
        }
        if (text.missing || separators.missing) {
            return MISSING;
        }
        cutter.begin(text.row, separators.row, gives);
        return cutter.tokensLeft();
    }

    public int more(int c) {
        Cutter cutter = cutterOf(c);
        if (cutter == null) {
            return UNKNOWN;
        }
        if (cutter.missing) {
            return MISSING;
        }
        return cutter.hasToken() ? 1 : 0;
    }

    public int left(int c) {
        Cutter cutter = cutterOf(c);
        if (cutter == null) {
            return UNKNOWN;
        }
        return cutter.missing ? MISSING : cutter.tokensLeft();
    }

    public int next(int c, int t) {
        Cutter cutter = cutterOf(c);
        Text text = textOf(t);
        if (cutter == null || text == null) {
            return UNKNOWN;
        }
        return cutter.missing ? MISSING : cutter.giveToken(text);
    }

    public int nextBy(int c, int u, int t) {
        Cutter cutter = cutterOf(c);
        Text separators = textOf(u);
        Text text = textOf(t);
        if (cutter == null || separators == null || text == null) {
            return UNKNOWN;
        }
        if (cutter.missing || separators.missing) {
            return MISSING;
        }
        cutter.separateBy(separators.row);
        return cutter.giveToken(text);
    }

    // ---- all

    public long digest() {
        long h = 17;
        for (int b = 0; b < builders.length; b++) {
            h = mixedRow(h, builders[b], 0, builders[b].size);
        }
        for (int t = 0; t < texts.length; t++) {
            Text text = texts[t];
            h = text.missing ? mixed(h, NONE) : mixedRow(h, text.row, 0, text.row.size);
        }
        h = mixed(h, pieces.count);
        for (int k = 0; k < pieces.count; k++) {
            h = mixedRow(h, pieces.whole, pieces.start(k), pieces.end(k));
        }
        for (int c = 0; c < cutters.length; c++) {
            h = mixed(h, cutters[c].missing ? NONE : cutters[c].tokensLeft());
        }
        return h;
    }

    // ---- what the calls share

    private static long mixed(long h, int v) {
        return 31 * h + v;
    }

    private static long mixedRow(long h, Row row, int from, int to) {
        long all = mixed(h, to - from);
        for (int at = from; at < to; at++) {
            all = mixed(all, row.signThere(at));
        }
        return all;
    }

    private static boolean isSign(int sign) {
        return sign >= 0 && sign < KINDS_OF_SIGN;
    }

    private static boolean isSeparator(int sign) {
        for (int i = 0; i < NO_SEPARATORS.length; i++) {
            if (NO_SEPARATORS[i] == sign) {
                return false;
            }
        }
        return isSign(sign);
    }

    private Row builderOf(int b) {
        return b >= 0 && b < builders.length ? builders[b] : null;
    }

    private Text textOf(int t) {
        return t >= 0 && t < texts.length ? texts[t] : null;
    }

    private Cutter cutterOf(int c) {
        return c >= 0 && c < cutters.length ? cutters[c] : null;
    }

    private Row textOrFour(int t) {
        Text text = textOf(t);
        if (text == null) {
            return null;
        }
        return text.missing ? four : text.row;
    }

    private Row nothing() {
        spare.clear();
        return spare;
    }

    private Row single(int sign) {
        spare.clear();
        spare.add(sign);
        return spare;
    }

    private Row lowBytes(int n, long letters) {
        spare.clear();
        for (int i = n - 1; i >= 0; i--) {
            spare.add((int) (letters >>> (8 * i)) & 255);
        }
        return spare;
    }

    private Row figures(long v) {
        spare.clear();
        long rest = v;
        for (int i = 0; i < MOST_FIGURES && (i == 0 || rest != 0); i++) {
            // The figure is made positive, not v: the lowest long has no positive counterpart.
            spare.add(FIGURE_ZERO + Math.abs((int) (rest % 10)));
            rest = rest / 10;
        }
        if (v < 0) {
            spare.add(MINUS);
        }
        spare.turnRound();
        return spare;
    }

    /** One row of 0 to 200 signs; it tests every place that it is told before it goes there. */
    private static final class Row {
        private final int[] signs = new int[MOST_SIGNS];
        private int size;

        boolean holds(int at) {
            return at >= 0 && at < size;
        }

        boolean spans(int from, int to) {
            return from >= 0 && from <= to && to <= size;
        }

        int signThere(int at) {
            return holds(at) ? signs[at] : NONE;
        }

        void write(int at, int sign) {
            if (holds(at)) {
                signs[at] = sign;
            }
        }

        void writeEach(int old, int with) {
            for (int at = 0; at < size; at++) {
                if (signThere(at) == old) {
                    write(at, with);
                }
            }
        }

        void clear() {
            size = 0;
        }

        void add(int sign) {
            if (size < signs.length) {
                signs[size] = sign;
                size++;
            }
        }

        void resize(int n) {
            for (int at = size; at < n; at++) {
                add(0);
            }
            if (n >= 0 && n < size) {
                size = n;
            }
        }

        /** Also where the other row is this one: then what lies outside from and to goes. */
        int copy(Row other, int from, int to) {
            if (!other.spans(from, to)) {
                return PLACE;
            }
            System.arraycopy(other.signs, from, signs, 0, to - from);
            size = to - from;
            return size;
        }

        int joinIn(int at, Row other) {
            return change(at, at, other, 0, other.size);
        }

        /** The cut end is right for the test too: from is above it just if from is above to or above size. */
        int exchange(int from, int to, Row other) {
            return change(from, Math.min(to, size), other, 0, other.size);
        }

        /** What lies from one place to another goes, and a part of a row that is not this one comes in there. */
        int change(int from, int to, Row other, int start, int end) {
            if (!spans(from, to) || !other.spans(start, end)) {
                return PLACE;
            }
            int incoming = end - start;
            int sizeThen = size - (to - from) + incoming;
            if (sizeThen > signs.length) {
                return FULL;
            }
            System.arraycopy(signs, to, signs, from + incoming, size - to);
            System.arraycopy(other.signs, start, signs, from, incoming);
            size = sizeThen;
            return size;
        }

        void turnRound() {
            for (int low = 0, high = size - 1; low < high; low++, high--) {
                int sign = signThere(low);
                write(low, signThere(high));
                write(high, sign);
            }
        }

        boolean hasStanding(Row sought, int at) {
            return sameRegion(at, sought, 0, sought.size);
        }

        boolean sameRegion(int at, Row other, int from, int n) {
            // As longs: the sums may lie beyond an int.
            if (at < 0 || from < 0 || (long) at + n > size || (long) from + n > other.size) {
                return false;
            }
            for (int i = 0; i < n; i++) {
                if (signThere(at + i) != other.signThere(from + i)) {
                    return false;
                }
            }
            return true;
        }

        int findForward(Row sought, int from) {
            for (int at = Math.max(0, Math.min(from, size)); at <= size; at++) {
                if (hasStanding(sought, at)) {
                    return at;
                }
            }
            return NONE;
        }

        int findBackward(Row sought, int from) {
            for (int at = Math.min(from, size); at >= 0; at--) {
                if (hasStanding(sought, at)) {
                    return at;
                }
            }
            return NONE;
        }

        int signForward(int sign, int from) {
            for (int at = Math.max(0, from); at < size; at++) {
                if (signThere(at) == sign) {
                    return at;
                }
            }
            return NONE;
        }

        int signBackward(int sign, int from) {
            for (int at = Math.min(from, size - 1); at >= 0; at--) {
                if (signThere(at) == sign) {
                    return at;
                }
            }
            return NONE;
        }

        int against(Row other) {
            int both = Math.min(size, other.size);
            for (int at = 0; at < both; at++) {
                int difference = signThere(at) - other.signThere(at);
                if (difference != 0) {
                    return difference;
                }
            }
            return size - other.size;
        }

        int blanksAhead() {
            int from = 0;
            while (from < size && signThere(from) <= LAST_BLANK) {
                from++;
            }
            return from;
        }

        int endBeforeBlanks(int from) {
            int to = size;
            while (to > from && signThere(to - 1) <= LAST_BLANK) {
                to--;
            }
            return to;
        }
    }

    /** A place for a text: its row is kept while it is missing, and used again. */
    private static final class Text {
        private final Row row = new Row();
        private boolean missing = true;

        int become(Row source, int from, int to) {
            int answer = row.copy(source, from, to);
            if (answer >= 0) {
                missing = false;
            }
            return answer;
        }
    }

    /** The parts lie in a row of their own, so that they stay whatever becomes of the text. */
    private static final class Parts {
        private final Row whole = new Row();
        private final int[] starts = new int[MOST_PARTS];
        private final int[] ends = new int[MOST_PARTS];
        private int count;

        boolean has(int k) {
            return k >= 0 && k < count;
        }

        int start(int k) {
            return has(k) ? starts[k] : 0;
        }

        int end(int k) {
            return has(k) ? ends[k] : 0;
        }

        void fall(Row text, int separator, int limit) {
            whole.copy(text, 0, text.size);
            count = 0;
            int start = 0;
            for (int at = 0; at < whole.size; at++) {
                if (whole.signThere(at) == separator && mayPart(limit)) {
                    addPart(start, at);
                    start = at + 1;
                }
            }
            addPart(start, whole.size);
            // A text that was not parted stays one part, even an empty one.
            if (limit == 0 && count > 1) {
                dropEmptyEnd();
            }
        }

        private boolean mayPart(int limit) {
            return limit <= 0 || count < limit - 1;
        }

        private void addPart(int start, int end) {
            if (count < starts.length && count < ends.length) {
                starts[count] = start;
                ends[count] = end;
                count++;
            }
        }

        private void dropEmptyEnd() {
            for (int k = count - 1; k >= 0 && start(k) == end(k); k--) {
                count = k;
            }
        }
    }

    /** It holds its own copies: the texts that it was made of may become others. */
    private static final class Cutter {
        private final Row row = new Row();
        private final boolean[] separators = new boolean[KINDS_OF_SIGN];
        private boolean gives;
        private boolean missing = true;
        private int place;

        void begin(Row text, Row separating, boolean giving) {
            row.copy(text, 0, text.size);
            separateBy(separating);
            gives = giving;
            place = 0;
            missing = false;
        }

        void separateBy(Row separating) {
            for (int sign = 0; sign < separators.length; sign++) {
                separators[sign] = false;
            }
            for (int at = 0; at < separating.size; at++) {
                int sign = separating.signThere(at);
                if (sign >= 0 && sign < separators.length) {
                    separators[sign] = true;
                }
            }
        }

        boolean hasToken() {
            return tokenStart(place) < row.size;
        }

        int tokensLeft() {
            int start = tokenStart(place);
            int count = 0;
            // A token has at least one sign, so that there are never more of them than signs.
            while (count < MOST_SIGNS && start < row.size) {
                count++;
                start = tokenStart(tokenEnd(start));
            }
            return count;
        }

        int giveToken(Text text) {
            int start = tokenStart(place);
            if (start >= row.size) {
                missing = true;
                return ENDED;
            }
            place = tokenEnd(start);
            return text.become(row, start, place);
        }

        private boolean separatesAt(int at) {
            int sign = row.signThere(at);
            return sign >= 0 && sign < separators.length && separators[sign];
        }

        private int tokenStart(int from) {
            int start = from;
            while (!gives && start < row.size && separatesAt(start)) {
                start++;
            }
            return start;
        }

        /** A token that starts with a separator is one that is given, and has no other sign. */
        private int tokenEnd(int start) {
            int end = start + 1;
            while (end < row.size && !separatesAt(start) && !separatesAt(end)) {
                end++;
            }
            return end;
        }
    }
}
