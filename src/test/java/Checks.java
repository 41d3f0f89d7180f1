/** What the tests share: it prints every wrong answer and ends with exit code 1 if there was one. */
final class Checks {
    static final int MIN = Integer.MIN_VALUE;
    static final int MAX = Integer.MAX_VALUE;
    static final int END = 1000000;
    static final Class<IllegalArgumentException> ILLEGAL = IllegalArgumentException.class;
    static final Class<UnsupportedOperationException> FULL = UnsupportedOperationException.class;
    static final Class<IndexOutOfBoundsException> NO_SUCH = IndexOutOfBoundsException.class;
    static final Class<java.util.NoSuchElementException> NO_VALUE = java.util.NoSuchElementException.class;

    interface Call {
        Object run();
    }

    interface Act {
        void run();
    }

    private int wrong = 0;

    void due(String what, Object want, Object got) {
        if (!want.equals(got)) {
            wrong++;
            System.out.println(what + " answered " + got + ", due is " + want);
        }
    }

    void due(String what, Object want, Call call) {
        due(what, want, outcome(call));
    }

    /** The exception's very class counts: a class below it, as the machine throws them, is wrong. */
    void dueThrow(String what, Class<? extends Exception> want, Call call) {
        due(what, thrown(want), outcome(call));
    }

    void dueNoThrow(String what, Act act) {
        due(what, "nothing", outcome(answering(act)));
    }

    void dueActThrow(String what, Class<? extends Exception> want, Act act) {
        dueThrow(what, want, answering(act));
    }

    static String thrown(Class<? extends Exception> kind) {
        return "throws." + kind.getSimpleName();
    }

    static Call answering(Act act) {
        return () -> {
            act.run();
            return "nothing";
        };
    }

    static Object outcome(Call call) {
        try {
            return call.run();
        } catch (RuntimeException e) {
            return "throws." + e.getClass().getSimpleName();
        }
    }

    void end() {
        if (wrong != 0) {
            System.out.println(wrong + " wrong");
            System.exit(1);
        }
    }

    /** The numbers of the tuples that a window has, as has tells them. */
    static String members(WindowMeters x, int w, int tuples) {
        StringBuilder text = new StringBuilder();
        for (int i = 0; i < tuples; i++) {
            if (x.has(w, i)) {
                text.append(text.length() == 0 ? "" : " ").append(i);
            }
        }
        return text.toString();
    }

    /** A new object with a window of kind ROWS that has all of the values. */
    static WindowMeters withValues(int... values) {
        WindowMeters x = new WindowMeters();
        x.window(1, END);
        for (int value : values) {
            x.tuple(0, 0, value);
        }
        return x;
    }

    /** A new object with so many windows, each of which has all tuples, and so many tuples of value 1 at time 0. */
    static WindowMeters of(int windows, int tuples) {
        WindowMeters x = new WindowMeters();
        for (int w = 0; w < windows; w++) {
            x.window(1, END);
        }
        for (int i = 0; i < tuples; i++) {
            x.tuple(0, i % 8, 1);
        }
        return x;
    }
}
