import java.lang.reflect.InvocationTargetException;
import java.lang.reflect.Method;
import java.util.ArrayList;
import java.util.List;

/**
 * Every call with every choice of arguments for which it is refused: the first refusal, in the order of the
 * document, is the answer, whichever argument it is of.
 */
final class Refusals {
    /** In the document's order; partTo() tells its NONE behind UNKNOWN. */
    private static final String ORDER = "UOMCPEFN";
    private static final int[] ANSWERS = {-1001, -1002, -1003, -1004, -1005, -1006, -1007, -1};

    /**
     * A call; its arguments when it is not refused; then, for one argument each, a number for which it is refused,
     * and how. Builder 0 is ab, builder 1 has 200 signs; text 0 is aa, text 1 is empty, text 2 is missing, text 3
     * has 200 signs, text 4 is the comma, text 5 is a row that may become another one; there are two parts.
     */
    private static final String[] CALLS = {
        "sign 0 97 | 0:-1:U 0:4:U 1:-1:O 1:256:O 0:1:F",
        "signs 0 2 97 | 0:-1:U 0:4:U 1:-1:O 1:9:O 0:1:F",
        "text 0 0 | 0:-1:U 0:4:U 1:-1:U 1:8:U 0:1:F 1:3:F",
        "part 0 0 0 2 | 0:-1:U 0:4:U 1:-1:U 1:8:U 2:-1:P 2:201:P 3:-1:P 3:201:P 0:1:F",
        "number 0 5 | 0:-1:U 0:4:U 0:1:F",
        "insert 0 1 0 | 0:-1:U 0:4:U 2:-1:U 2:8:U 1:-1:P 1:201:P 0:1:F 2:3:F",
        "insertPart 0 1 0 0 2 | 0:-1:U 0:4:U 2:-1:U 2:8:U 1:-1:P 1:201:P 3:-1:P 3:201:P 4:-1:P 4:201:P 0:1:F",
        "insertSign 0 1 97 | 0:-1:U 0:4:U 2:-1:O 2:256:O 1:-1:P 1:201:P 0:1:F",
        "delete 0 1 2 | 0:-1:U 0:4:U 1:-1:P 1:201:P 2:-1:P 2:0:P",
        "deleteAt 0 1 | 0:-1:U 0:4:U 1:-1:P 1:200:P",
        "replace 0 1 1 0 | 0:-1:U 0:4:U 3:-1:U 3:8:U 3:2:M 1:-1:P 1:201:P 2:-1:P 2:0:P 0:1:F 3:3:F",
        "reverse 0 | 0:-1:U 0:4:U",
        "put 0 1 98 | 0:-1:U 0:4:U 2:-1:O 2:256:O 1:-1:P 1:200:P",
        "length 0 3 | 0:-1:U 0:4:U 1:-1:C 1:201:F",
        "at 0 1 | 0:-1:U 0:4:U 1:-1:P 1:200:P",
        "size 0 | 0:-1:U 0:4:U",
        "first 0 1 0 | 0:-1:U 0:4:U 1:-1:U 1:8:U 1:2:M",
        "last 0 1 0 | 0:-1:U 0:4:U 1:-1:U 1:8:U 1:2:M",
        "take 0 0 2 5 | 0:-1:U 0:4:U 3:-1:U 3:8:U 1:-1:P 1:201:P 2:-1:P 2:201:P",
        "ahead 0 0 | 0:-1:U 0:4:U 1:-1:U 1:4:U",
        "forget 0 | 0:-1:U 0:8:U",
        "textSize 0 | 0:-1:U 0:8:U",
        "signAt 0 1 | 0:-1:U 0:8:U 0:2:M 1:-1:P 1:200:P",
        "firstSign 0 97 0 | 0:-1:U 0:8:U 1:-1:O 1:256:O 0:2:M",
        "lastSign 0 97 0 | 0:-1:U 0:8:U 1:-1:O 1:256:O 0:2:M",
        "firstText 0 0 0 | 0:-1:U 0:8:U 1:-1:U 1:8:U 0:2:M 1:2:M",
        "lastText 0 0 0 | 0:-1:U 0:8:U 1:-1:U 1:8:U 0:2:M 1:2:M",
        "region 0 0 0 0 2 | 0:-1:U 0:8:U 2:-1:U 2:8:U 0:2:M 2:2:M",
        "order 0 0 | 0:-1:U 0:8:U 1:-1:U 1:8:U 0:2:M 1:2:M",
        "begins 0 0 0 | 0:-1:U 0:8:U 1:-1:U 1:8:U 0:2:M 1:2:M",
        "swap 0 97 98 5 | 0:-1:U 0:8:U 3:-1:U 3:8:U 1:-1:O 1:256:O 2:-1:O 2:256:O 0:2:M",
        "sub 0 0 1 5 | 0:-1:U 0:8:U 3:-1:U 3:8:U 0:2:M 1:-1:P 1:201:P 2:-1:P 2:201:P",
        "trim 0 5 | 0:-1:U 0:8:U 1:-1:U 1:8:U 0:2:M",
        "repeat 0 2 5 | 0:-1:U 0:8:U 2:-1:U 2:8:U 0:2:M 1:-1:C 0:3:F 1:101:F",
        "join 0 0 5 | 0:-1:U 0:8:U 1:-1:U 1:8:U 2:-1:U 2:8:U 0:2:M 1:2:M 0:3:F 1:3:F",
        "split 0 44 0 | 0:-1:U 0:8:U 1:-1:O 1:256:O 1:46:O 0:2:M",
        "partTo 0 5 | 1:-1:U 1:8:U 0:-1:N 0:2:N",
        "joined 44 5 | 1:-1:U 1:8:U 0:-1:O 0:256:O",
        "cutter 0 0 0 1 | 0:-1:U 0:2:U 1:-1:U 1:8:U 2:-1:U 2:8:U 1:2:M 2:2:M",
        "more 0 | 0:-1:U 0:2:U 0:1:M",
        "left 0 | 0:-1:U 0:2:U 0:1:M",
        "next 0 5 | 0:-1:U 0:2:U 1:-1:U 1:8:U 0:1:M",
        "nextBy 0 4 5 | 0:-1:U 0:2:U 1:-1:U 1:8:U 2:-1:U 2:8:U 0:1:M 1:2:M"};

    /** The same, where cutter 1 is at its end, and not missing. */
    private static final String[] CALLS_AT_END = {
        "next 0 5 | 0:-1:U 0:2:U 1:-1:U 1:8:U 0:1:E",
        "nextBy 0 4 5 | 0:-1:U 0:2:U 1:-1:U 1:8:U 2:-1:U 2:8:U 0:1:E 1:2:M"};

    private final Due due;
    private final boolean atEnd;
    private Method method;
    private long[] plain;
    private List<List<String>> faults;

    private Refusals(Due due, boolean atEnd) {
        this.due = due;
        this.atEnd = atEnd;
    }

    static void all(Due due) {
        for (String call : CALLS) {
            new Refusals(due, false).look(call);
        }
        for (String call : CALLS_AT_END) {
            new Refusals(due, true).look(call);
        }
    }

    private RowsOfSigns made() {
        RowsOfSigns x = Rows.with("ab", "aa", "", null, "y".repeat(200), ",");
        Rows.write(x, 5, "a,b");
        x.split(5, ',', 0);
        x.cutter(0, 5, 4, false);
        Rows.write(x, 5, "old");
        Rows.build(x, 1, "x".repeat(200));
        if (atEnd) {
            x.cutter(1, 1, 4, false);
        }
        return x;
    }

    private void look(String call) {
        String[] halves = call.split(" \\| ");
        String[] words = halves[0].split(" ");
        for (Method each : RowsOfSigns.class.getMethods()) {
            if (each.getName().equals(words[0])) {
                method = each;
            }
        }
        plain = new long[words.length - 1];
        faults = new ArrayList<>();
        for (int a = 0; a < plain.length; a++) {
            plain[a] = Long.parseLong(words[a + 1]);
            faults.add(new ArrayList<>());
        }
        for (String fault : halves[1].split(" ")) {
            String[] told = fault.split(":");
            faults.get(Integer.parseInt(told[0])).add(told[1] + ":" + told[2]);
        }
        long answer = answer(made(), plain);
        due.is(halves[0] + " is not refused", answer >= 0 ? 1 : 0, 1);
        choose(0, plain.clone(), ORDER.length());
    }

    /** Each argument as it is when the call is not refused, then each that is a fault; rank: the first refusal yet. */
    private void choose(int argument, long[] chosen, int rank) {
        if (argument == chosen.length) {
            if (rank < ORDER.length()) {
                refused(chosen.clone(), ORDER.charAt(rank), ANSWERS[rank]);
            }
            return;
        }
        chosen[argument] = plain[argument];
        choose(argument + 1, chosen, rank);
        for (String fault : faults.get(argument)) {
            String[] told = fault.split(":");
            chosen[argument] = Long.parseLong(told[0]);
            choose(argument + 1, chosen, Math.min(rank, ORDER.indexOf(told[1])));
        }
    }

    private void refused(long[] chosen, char kind, int want) {
        StringBuilder call = new StringBuilder(method.getName());
        for (long v : chosen) {
            call.append(' ').append(v);
        }
        if (kind != 'E') {
            due.refused(this::made, call.toString(), want, x -> answer(x, chosen));
            return;
        }
        // Of this one the document tells what it changes, and that this is all.
        RowsOfSigns x = made();
        RowsOfSigns other = new Refusals(due, false).made();
        due.is(call.toString(), answer(x, chosen), want);
        due.is(call + ", left(1) behind it", x.left(1), -1003);
        due.is(call + ", digest() behind it", x.digest(), other.digest());
        due.is(call + ", the tokens of cutter 0 behind it", Rows.tokens(x, 0), Rows.tokens(other, 0));
    }

    private long answer(RowsOfSigns x, long[] chosen) {
        Object[] arguments = new Object[chosen.length];
        for (int a = 0; a < chosen.length; a++) {
            Class<?> type = method.getParameterTypes()[a];
            if (type == int.class) {
                arguments[a] = (int) chosen[a];
            } else if (type == long.class) {
                arguments[a] = chosen[a];
            } else {
                arguments[a] = chosen[a] != 0;
            }
        }
        try {
            return ((Number) method.invoke(x, arguments)).longValue();
        } catch (IllegalAccessException | InvocationTargetException e) {
            throw new IllegalStateException(method.getName() + " threw " + e.getCause());
        }
    }
}
