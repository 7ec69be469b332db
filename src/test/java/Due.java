/** Counts the answers that are not as due, and tells of which sentence of the document they are. */
final class Due {
    interface Test {
        void run();
    }

    interface Setup {
        RowsOfSigns made();
    }

    interface Call {
        long on(RowsOfSigns x);
    }

    interface CallWith {
        long on(RowsOfSigns x, int v);
    }

    // Not the constants of the class: they are looked at, too.
    static final int UNKNOWN = -1001, OUTSIDE = -1002;

    private final Sentences sentences;
    private String sentence = "";
    private int tests = 0;
    private int asked = 0;
    private int wrong = 0;

    /** The sections of the document of whose every sentence there has to be a test. */
    Due(String... sections) {
        sentences = new Sentences(sections);
    }

    static Due ofPromises(int first, int last) {
        String[] sections = new String[last - first + 1];
        for (int i = 0; i < sections.length; i++) {
            sections[i] = "Promise " + (first + i);
        }
        return new Due(sections);
    }

    /** A test of one sentence of the document, or of a part of one. */
    void test(String section, String said, Test test) {
        sentences.tested(section, said);
        sentence = section + ", \"" + said + "\": ";
        tests++;
        try {
            test.run();
        } catch (RuntimeException e) {
            fault("a call, or the test, threw " + e);
        }
        sentence = "";
    }

    void is(String call, long got, long want) {
        asked++;
        if (got != want) {
            fault(call + " answered " + got + ", due is " + want);
        }
    }

    void is(String call, String got, String want) {
        asked++;
        if (!want.equals(got)) {
            fault(call + " left " + Rows.shown(got) + ", due is " + Rows.shown(want));
        }
    }

    private void fault(String told) {
        wrong++;
        System.out.println(sentence + told);
    }

    /** The call answers this refusal and changes nothing: its object stays like another one that had no such call. */
    void refused(Setup setup, String call, long want, Call made) {
        RowsOfSigns x = setup.made();
        RowsOfSigns other = setup.made();
        is(call, made.on(x), want);
        is(call + ", digest() behind it", x.digest(), other.digest());
        for (int c = 0; c < 2; c++) {
            is(call + ", more(" + c + ") behind it", x.more(c), other.more(c));
            is(call + ", the tokens of cutter " + c + " behind it", Rows.tokens(x, c), Rows.tokens(other, c));
        }
    }

    /** The numbers from low to high are taken, those below and above are refused. */
    void bounds(Setup setup, String call, int low, long wantLow, int high, long wantHigh, long refusal, CallWith made) {
        is(call + " with " + low, made.on(setup.made(), low), wantLow);
        is(call + " with " + high, made.on(setup.made(), high), wantHigh);
        for (int v : new int[] {low - 1, high + 1, Integer.MIN_VALUE, Integer.MAX_VALUE}) {
            refused(setup, call + " with " + v, refusal, x -> made.on(x, v));
        }
    }

    void builders(Setup setup, String call, long want, CallWith made) {
        bounds(setup, call, 0, want, 3, want, UNKNOWN, made);
    }

    void texts(Setup setup, String call, long want, CallWith made) {
        bounds(setup, call, 0, want, 7, want, UNKNOWN, made);
    }

    void cutters(Setup setup, String call, long want, CallWith made) {
        bounds(setup, call, 0, want, 1, want, UNKNOWN, made);
    }

    void signs(Setup setup, String call, long wantLow, long wantHigh, CallWith made) {
        bounds(setup, call, 0, wantLow, 255, wantHigh, OUTSIDE, made);
    }

    void end() {
        for (String fault : sentences.faults()) {
            fault(fault);
        }
        System.out.println(tests + " tests of sentences, " + asked + " answers looked at, " + wrong + " wrong");
        if (wrong != 0 || asked == 0) {
            System.exit(1);
        }
    }
}
