import java.util.ArrayList;
import java.util.List;

/**
 * "A call that throws changes nothing": each call that is to be refused, on an object in each of several states;
 * the object must then answer all questions, and go on, as a twin does that never had the call.
 */
public final class TermsRefusedTest {
    private interface On {
        Object call(WindowMeters x);
    }

    private static final class Refused {
        final String name;
        final Class<? extends Exception> want;
        final On on;

        Refused(String name, Class<? extends Exception> want, On on) {
            this.name = name;
            this.want = want;
            this.on = on;
        }
    }

    private final String state;
    private final int windows;
    private final int tuples;
    private final int now;
    private final List<Refused> refused = new ArrayList<>();

    private TermsRefusedTest(String state, int windows, int tuples, int now) {
        this.state = state;
        this.windows = windows;
        this.tuples = tuples;
        this.now = now;
    }

    public static void main(String[] args) {
        Checks c = new Checks();
        new TermsRefusedTest("a new object", 0, 0, 0).check(c);
        new TermsRefusedTest("tuples alone", 0, 5, 20).check(c);
        new TermsRefusedTest("windows alone", 6, 0, 20).check(c);
        new TermsRefusedTest("one of each", 1, 1, 0).check(c);
        new TermsRefusedTest("five and 299", 5, 299, 400).check(c);
        new TermsRefusedTest("six and 300", 6, 300, 299).check(c);
        new TermsRefusedTest("six and 300 at the end of time", 6, 300, Checks.END).check(c);
        c.end();
    }

    private WindowMeters make() {
        WindowMeters x = new WindowMeters();
        for (int w = 0; w < windows; w++) {
            x.window(w, 3);
        }
        for (int i = 0; i < tuples; i++) {
            x.tuple(i, i % 5, i % 7 - 3);
        }
        x.tick(now);
        return x;
    }

    private void check(Checks c) {
        tellings();
        questions();
        for (Refused r : refused) {
            WindowMeters x = make();
            c.dueThrow(state + ": " + r.name, r.want, () -> r.on.call(x));
            c.due(state + ", after " + r.name, look(make()), look(x));
        }
    }

    private void refuse(String name, Class<? extends Exception> want, On on) {
        refused.add(new Refused(name, want, on));
    }

    private void tellings() {
        for (int kind : new int[] {-1, 6, Checks.MIN, Checks.MAX}) {
            refuse("window(" + kind + ", 1)", Checks.ILLEGAL, x -> x.window(kind, 1));
        }
        for (int n : new int[] {-1, 1000001, Checks.MIN, Checks.MAX}) {
            refuse("window(0, " + n + ")", Checks.ILLEGAL, x -> x.window(0, n));
        }
        for (int time : new int[] {now - 1, -1, 1000001, Checks.MIN, Checks.MAX}) {
            refuse("tuple(" + time + ", 0, 9)", Checks.ILLEGAL, x -> x.tuple(time, 0, 9));
            refuse("tick(" + time + ")", Checks.ILLEGAL, x -> Checks.answering(() -> x.tick(time)).run());
        }
        int later = Math.min(now + 5, Checks.END);
        for (int key : new int[] {-1, 8, Checks.MIN, Checks.MAX}) {
            refuse("tuple(" + later + ", " + key + ", 9)", Checks.ILLEGAL, x -> x.tuple(later, key, 9));
        }
        if (windows == 6) {
            refuse("window(1, 5)", Checks.FULL, x -> x.window(1, 5));
        }
        if (tuples == 300) {
            refuse("tuple(" + later + ", 0, 9)", Checks.FULL, x -> x.tuple(later, 0, 9));
        }
    }

    private void questions() {
        for (int w : new int[] {-1, windows, 6, Checks.MIN, Checks.MAX}) {
            for (int what = 0; what < 4; what++) {
                int good = what;
                refuse("meter(" + w + ", " + what + ")", Checks.NO_SUCH, x -> x.meter(w, good));
            }
            refuse("kth(" + w + ", 0)", Checks.NO_SUCH, x -> x.kth(w, 0));
            refuse("frequent(" + w + ")", Checks.NO_SUCH, x -> x.frequent(w));
            refuse("below(" + w + ", 0)", Checks.NO_SUCH, x -> x.below(w, 0));
            refuse("has(" + w + ", 0)", Checks.NO_SUCH, x -> x.has(w, 0));
        }
        for (int w = 0; w < windows; w++) {
            questionsTo(w);
        }
    }

    private void questionsTo(int w) {
        int count = make().meter(w, 0);
        for (int what : new int[] {-1, 4, Checks.MIN, Checks.MAX}) {
            refuse("meter(" + w + ", " + what + ")", Checks.ILLEGAL, x -> x.meter(w, what));
        }
        for (int k : new int[] {-1, count, Checks.MIN, Checks.MAX}) {
            refuse("kth(" + w + ", " + k + ")", Checks.NO_VALUE, x -> x.kth(w, k));
        }
        for (int i : new int[] {-1, tuples, 300, Checks.MIN, Checks.MAX}) {
            refuse("has(" + w + ", " + i + ")", Checks.NO_SUCH, x -> x.has(w, i));
        }
        if (count == 0) {
            refuse("frequent(" + w + ")", Checks.NO_VALUE, x -> x.frequent(w));
        }
    }

    /**
     * What the object tells, and what it tells when it goes on; within what is left of its 512 calls. The calls that
     * are refused come last: a change that they made would come to the twin too, and hide what is looked for.
     */
    private String look(WindowMeters x) {
        StringBuilder text = new StringBuilder();
        note(text, x::now);
        ask(text, x, tuples);
        if (tuples < 300) {
            note(text, () -> x.tuple(now, 7, 2));
            ask(text, x, tuples + 1);
        }
        if (windows < 6) {
            note(text, () -> x.window(0, 6));
            note(text, () -> x.meter(windows, 1));
        }
        note(text, Checks.answering(() -> x.tick(Math.min(now + 1, Checks.END))));
        ask(text, x, tuples);
        for (int w = 0; w < 7; w++) {
            askForValues(text, x, w);
        }
        return text.toString();
    }

    private void ask(StringBuilder text, WindowMeters x, int known) {
        for (int w = 0; w < windows; w++) {
            int number = w;
            for (int what = 0; what < 4; what++) {
                int good = what;
                note(text, () -> x.meter(number, good));
            }
            note(text, () -> x.below(number, 0));
            for (int i : new int[] {known - 299, known - 2, known - 1}) {
                if (i >= 0) {
                    note(text, () -> x.has(number, i));
                }
            }
        }
    }

    private static void askForValues(StringBuilder text, WindowMeters x, int w) {
        note(text, () -> x.kth(w, 0));
        note(text, () -> x.kth(w, 1));
        note(text, () -> x.kth(w, 3));
        note(text, () -> x.frequent(w));
    }

    private static void note(StringBuilder text, Checks.Call call) {
        text.append(Checks.outcome(call)).append(' ');
    }
}
