/** What the tests share: it prints every wrong answer and ends with exit code 1 if there was one. */
final class Checks {
    interface Call {
        Object run();
    }

    interface Act {
        void run();
    }

    private int wrong = 0;

    void due(String what, Object want, Object got) {
        if (!want.equals(got)) {
            wrong++;
            System.out.println(what + " answered " + got + ", due is " + want);
        }
    }

    /** The exception's very class counts: a class below it, as the machine throws them, is wrong. */
    void dueThrow(String what, Class<? extends Exception> want, Call call) {
        due(what, "throws." + want.getSimpleName(), outcome(call));
    }

    void dueNoThrow(String what, Act act) {
        due(what, "nothing", outcome(() -> {
            act.run();
            return "nothing";
        }));
    }

    void dueActThrow(String what, Class<? extends Exception> want, Act act) {
        dueThrow(what, want, () -> {
            act.run();
            return "nothing";
        });
    }

    static Object outcome(Call call) {
        try {
            return call.run();
        } catch (RuntimeException e) {
            return "throws." + e.getClass().getSimpleName();
        }
    }

    void end() {
        if (wrong != 0) {
            System.out.println(wrong + " wrong");
            System.exit(1);
        }
    }

    /** The numbers of the tuples that a window has, as has tells them. */
    static String members(WindowMeters x, int w, int tuples) {
        StringBuilder text = new StringBuilder();
        for (int i = 0; i < tuples; i++) {
            if (x.has(w, i)) {
                text.append(text.length() == 0 ? "" : " ").append(i);
            }
        }
        return text.toString();
    }

    /** A new object with a window of kind ROWS that has all of the values. */
    static WindowMeters withValues(int... values) {
        WindowMeters x = new WindowMeters();
        x.window(1, 1000000);
        for (int value : values) {
            x.tuple(0, 0, value);
        }
        return x;
    }
}
