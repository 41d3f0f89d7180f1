/** "An object is used for at most 512 calls after it has been made": the 512th still answers as it must. */
public final class CallsTest {
    private static final int CALLS = 512;

    public static void main(String[] args) {
        Checks c = new Checks();
        theLastCallOfAFullObject(c);
        nothingButRefusedCalls(c);
        nothingButClearing(c);
        c.end();
    }

    private static void theLastCallOfAFullObject(Checks c) {
        WindowMeters x = Checks.of(6, 300);
        for (int call = 306; call < CALLS; call++) {
            c.due("call " + (call + 1), 300, () -> x.meter(5, 0));
        }
    }

    private static void nothingButRefusedCalls(Checks c) {
        WindowMeters x = new WindowMeters();
        for (int call = 0; call < CALLS - 1; call++) {
            c.dueThrow("refused call " + (call + 1), Checks.ILLEGAL, () -> x.tuple(-1, 0, 0));
        }
        c.due("the call behind the refused ones", 1, () -> x.tuple(0, 0, 0));
    }

    private static void nothingButClearing(Checks c) {
        WindowMeters x = new WindowMeters();
        for (int call = 0; call < CALLS; call += 4) {
            int value = call;
            int time = Checks.END - call;
            c.due("window of call " + call, 0, () -> x.window(0, 0));
            c.due("tuple of call " + call, 1, () -> x.tuple(time, 7, value));
            c.due("sum of call " + call, value, () -> x.meter(0, 1));
            c.dueNoThrow("clear of call " + call, x::clear);
        }
    }
}
