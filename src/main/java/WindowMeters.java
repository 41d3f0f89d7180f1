import java.util.NoSuchElementException;

/** Windows that go with a row of tuples, and meters of the values in them. */
public final class WindowMeters {
    /** There is none. */
    public static final int NONE = -1;

    private static final int RANGE = 0;
    private static final int ROWS = 1;
    private static final int KEYS = 2;
    private static final int BLOCK = 3;
    private static final int RUN = 4;
    private static final int OUTSIDE = 5;

    private static final int HOW_MANY = 0;
    private static final int SUM = 1;
    private static final int UNLIKE = 2;
    private static final int HOW_OFTEN = 3;

    private static final int MAX_TIME = 1000000;
    private static final int MAX_N = 1000000;
    private static final int MAX_TUPLES = 300;
    private static final int MAX_WINDOWS = 6;
    private static final int KEY_COUNT = 8;

    private final int[] times = new int[MAX_TUPLES];
    private final int[] keys = new int[MAX_TUPLES];
    private final int[] values = new int[MAX_TUPLES];
    // The tuples' numbers in the order of their values.
    private final int[] bySize = new int[MAX_TUPLES];
    private int tupleCount;

    private final int[] kinds = new int[MAX_WINDOWS];
    private final int[] lengths = new int[MAX_WINDOWS];
    private int windowCount;

    private int now;

    // It holds nothing from one call to the next; it is kept so that no call
    // has to make a row.
    private final boolean[] inside = new boolean[MAX_TUPLES];

    /** No tuples, no windows; now is 0. */
    public WindowMeters() {
        tupleCount = 0;
        windowCount = 0;
        now = 0;
    }

    /** Takes all tuples and windows away and sets now to 0. */
    public void clear() {
        tupleCount = 0;
        windowCount = 0;
        now = 0;
    }

    /** Makes a window and answers its number. */
    public int window(int kind, int n) throws IllegalArgumentException, UnsupportedOperationException {
        if (kind < RANGE || kind > OUTSIDE) {
            throw new IllegalArgumentException("no such kind of window");
        }
        if (n < 0 || n > MAX_N) {
            throw new IllegalArgumentException("n is not 0 .. 1000000");
        }
        if (windowCount >= MAX_WINDOWS) {
            throw new UnsupportedOperationException("there are six windows");
        }
        int w = windowCount;
        kinds[w] = kind;
        lengths[w] = n;
        windowCount = w + 1;
        return w;
    }

    /** Takes a tuple and answers how many there are. */
    public int tuple(int time, int key, int value) throws IllegalArgumentException, UnsupportedOperationException {
        // Now is never below the last tuple's time, so that one test does for both.
        if (time < now || time > MAX_TIME) {
            throw new IllegalArgumentException("the time is below now or above 1000000");
        }
        if (key < 0 || key >= KEY_COUNT) {
            throw new IllegalArgumentException("no such key");
        }
        if (tupleCount >= MAX_TUPLES) {
            throw new UnsupportedOperationException("there are 300 tuples");
        }
        int i = tupleCount;
        times[i] = time;
        keys[i] = key;
        values[i] = value;
        placeBySize(i);
        tupleCount = i + 1;
        now = time;
        return tupleCount;
    }

    /** Sets now. */
    public void tick(int time) throws IllegalArgumentException {
        if (time < now || time > MAX_TIME) {
            throw new IllegalArgumentException("the time is below now or above 1000000");
        }
        now = time;
    }

    /** Of a window: 0 how many values, 1 their sum, 2 how many unlike ones, 3 how often the most frequent one. */
    public int meter(int w, int what) throws IndexOutOfBoundsException, IllegalArgumentException {
        checkWindow(w);
        if (what < HOW_MANY || what > HOW_OFTEN) {
            throw new IllegalArgumentException("no such meter");
        }
        markInside(w);
        switch (what) {
            case HOW_MANY:
                return countInside();
            case SUM:
                return sumInside();
            case UNLIKE:
                return countUnlike();
            default:
                return countMostFrequent();
        }
    }

    /** The k-th value of a window by size, k from 0 on. */
    public int kth(int w, int k) throws IndexOutOfBoundsException, NoSuchElementException {
        checkWindow(w);
        markInside(w);
        int i = findKth(k);
        if (i == NONE) {
            throw new NoSuchElementException("no such value in the window");
        }
        return values[i];
    }

    /** The most frequent value of a window, of several the least. */
    public int frequent(int w) throws IndexOutOfBoundsException, NoSuchElementException {
        checkWindow(w);
        markInside(w);
        int i = findMostFrequent();
        if (i == NONE) {
            throw new NoSuchElementException("no value in the window");
        }
        return values[i];
    }

    /** How many values of a window are below v. */
    public int below(int w, int v) throws IndexOutOfBoundsException {
        checkWindow(w);
        markInside(w);
        int count = 0;
        for (int i = 0; i < tupleCount; i++) {
            if (inside[i] && values[i] < v) {
                count++;
            }
        }
        return count;
    }

    /** Whether tuple i, from 0 on, is in a window. */
    public boolean has(int w, int i) throws IndexOutOfBoundsException {
        checkWindow(w);
        if (i < 0 || i >= tupleCount) {
            throw new IndexOutOfBoundsException("no such tuple");
        }
        markInside(w);
        return inside[i];
    }

    /** The greatest time that was told. */
    public int now() {
        return now;
    }

    private void checkWindow(int w) {
        if (w < 0 || w >= windowCount) {
            throw new IndexOutOfBoundsException("no such window");
        }
    }

    // Sorting as the tuples come leaves each later question one walk along the row.
    private void placeBySize(int i) {
        int place = 0;
        for (int other = 0; other < i; other++) {
            if (values[other] <= values[i]) {
                place++;
            }
        }
        for (int to = i; to > place; to--) {
            bySize[to] = bySize[to - 1];
        }
        bySize[place] = i;
    }

    private void markInside(int w) {
        int n = lengths[w];
        switch (kinds[w]) {
            case RANGE:
                markRange(n);
                break;
            case ROWS:
                markRows(n);
                break;
            case KEYS:
                markKeys(n);
                break;
            case BLOCK:
                markBlock(n);
                break;
            case RUN:
                markRun(n);
                break;
            default:
                markOutside(n);
                break;
        }
    }

    private void markRange(int n) {
        for (int i = 0; i < tupleCount; i++) {
            inside[i] = times[i] >= now - n;
        }
    }

    private void markRows(int n) {
        for (int i = 0; i < tupleCount; i++) {
            inside[i] = i >= tupleCount - n;
        }
    }

    private void markKeys(int n) {
        for (int key = 0; key < KEY_COUNT; key++) {
            markLastOfKey(key, n);
        }
    }

    private void markLastOfKey(int key, int n) {
        int later = 0;
        for (int i = tupleCount - 1; i >= 0; i--) {
            if (keys[i] == key) {
                inside[i] = later < n;
                later++;
            }
        }
    }

    private void markBlock(int n) {
        int length = n > 0 ? n : 1;
        int block = now / length;
        for (int i = 0; i < tupleCount; i++) {
            inside[i] = times[i] / length == block;
        }
    }

    private void markRun(int n) {
        // The last tuple is tied to now as each other one is to its next.
        int next = now;
        boolean tied = true;
        for (int i = tupleCount - 1; i >= 0; i--) {
            tied = tied && times[i] >= next - n;
            inside[i] = tied;
            next = times[i];
        }
    }

    private void markOutside(int n) {
        for (int i = 0; i < tupleCount; i++) {
            inside[i] = times[i] < now - n;
        }
    }

    // The row bySize is read through this test, so that what it holds is
    // looked at before it is used as an index.
    private boolean isInside(int i) {
        return i >= 0 && i < tupleCount && inside[i];
    }

    private int countInside() {
        int count = 0;
        for (int i = 0; i < tupleCount; i++) {
            if (inside[i]) {
                count++;
            }
        }
        return count;
    }

    private int sumInside() {
        int sum = 0;
        for (int i = 0; i < tupleCount; i++) {
            if (inside[i]) {
                sum += values[i];
            }
        }
        return sum;
    }

    private int countUnlike() {
        int count = 0;
        int last = NONE;
        for (int place = 0; place < tupleCount; place++) {
            int i = bySize[place];
            if (isInside(i)) {
                if (last == NONE || values[i] != values[last]) {
                    count++;
                }
                last = i;
            }
        }
        return count;
    }

    private int countMostFrequent() {
        int most = findMostFrequent();
        if (most == NONE) {
            return 0;
        }
        int count = 0;
        for (int i = 0; i < tupleCount; i++) {
            if (inside[i] && values[i] == values[most]) {
                count++;
            }
        }
        return count;
    }

    // The number of a tuple that has the value, or NONE: every int may be a
    // value, so that no value could stand for there being none.
    private int findMostFrequent() {
        int most = NONE;
        int mostOften = 0;
        int last = NONE;
        int often = 0;
        for (int place = 0; place < tupleCount; place++) {
            int i = bySize[place];
            if (isInside(i)) {
                often = last != NONE && values[i] == values[last] ? often + 1 : 1;
                last = i;
                // A greater value that is there as often must not take the place.
                if (often > mostOften) {
                    mostOften = often;
                    most = i;
                }
            }
        }
        return most;
    }

    private int findKth(int k) {
        int smaller = 0;
        for (int place = 0; place < tupleCount; place++) {
            int i = bySize[place];
            if (isInside(i)) {
                if (smaller == k) {
                    return i;
                }
                smaller++;
            }
        }
        return NONE;
    }
}
