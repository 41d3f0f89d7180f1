import java.util.ArrayList;
import java.util.Collections;
import java.util.List;
import java.util.NoSuchElementException;
import java.util.TreeMap;

/** The document told once more, word by word and without a care for speed, to hold the class against. */
final class Model {
    private final List<int[]> tuples = new ArrayList<>();
    private final List<int[]> windows = new ArrayList<>();
    private int now = 0;

    void clear() {
        tuples.clear();
        windows.clear();
        now = 0;
    }

    int window(int kind, int n) {
        if (kind < 0 || kind > 5 || n < 0 || n > 1000000) {
            throw new IllegalArgumentException();
        }
        if (windows.size() == 6) {
            throw new UnsupportedOperationException();
        }
        windows.add(new int[] {kind, n});
        return windows.size() - 1;
    }

    int tuple(int time, int key, int value) {
        if (time < 0 || time > 1000000 || time < now || key < 0 || key > 7) {
            throw new IllegalArgumentException();
        }
        if (tuples.size() == 300) {
            throw new UnsupportedOperationException();
        }
        tuples.add(new int[] {time, key, value});
        now = time;
        return tuples.size();
    }

    void tick(int time) {
        if (time < now || time > 1000000) {
            throw new IllegalArgumentException();
        }
        now = time;
    }

    int meter(int w, int what) {
        List<Integer> row = sorted(w);
        switch (what) {
            case 0:
                return row.size();
            case 1:
                return (int) row.stream().mapToLong(v -> v).sum();
            case 2:
                return counts(row).size();
            case 3:
                return row.isEmpty() ? 0 : Collections.max(counts(row).values());
            default:
                throw new IllegalArgumentException();
        }
    }

    int kth(int w, int k) {
        List<Integer> row = sorted(w);
        if (k < 0 || k >= row.size()) {
            throw new NoSuchElementException();
        }
        return row.get(k);
    }

    int frequent(int w) {
        List<Integer> row = sorted(w);
        if (row.isEmpty()) {
            throw new NoSuchElementException();
        }
        TreeMap<Integer, Integer> counts = counts(row);
        int most = Collections.max(counts.values());
        for (int value : counts.keySet()) {
            if (counts.get(value) == most) {
                return value;
            }
        }
        throw new AssertionError();
    }

    int below(int w, int v) {
        return (int) sorted(w).stream().filter(x -> x < v).count();
    }

    boolean has(int w, int i) {
        check(w);
        if (i < 0 || i >= tuples.size()) {
            throw new IndexOutOfBoundsException();
        }
        return isIn(windows.get(w)[0], windows.get(w)[1], i);
    }

    int now() {
        return now;
    }

    int tupleCount() {
        return tuples.size();
    }

    private void check(int w) {
        if (w < 0 || w >= windows.size()) {
            throw new IndexOutOfBoundsException();
        }
    }

    private boolean isIn(int kind, int n, int i) {
        int time = tuples.get(i)[0];
        switch (kind) {
            case 0:
                return time >= now - n;
            case 1:
                return tuples.size() - i <= n;
            case 2:
                return tuples.subList(i, tuples.size()).stream().filter(t -> t[1] == tuples.get(i)[1]).count() <= n;
            case 3:
                return Math.floorDiv(time, Math.max(n, 1)) == Math.floorDiv(now, Math.max(n, 1));
            case 4:
                return i == tuples.size() - 1
                        ? time >= now - n
                        : tuples.get(i + 1)[0] - time <= n && isIn(kind, n, i + 1);
            default:
                return time < now - n;
        }
    }

    private List<Integer> sorted(int w) {
        check(w);
        List<Integer> row = new ArrayList<>();
        for (int i = 0; i < tuples.size(); i++) {
            if (has(w, i)) {
                row.add(tuples.get(i)[2]);
            }
        }
        Collections.sort(row);
        return row;
    }

    private static TreeMap<Integer, Integer> counts(List<Integer> row) {
        TreeMap<Integer, Integer> counts = new TreeMap<>();
        for (int value : row) {
            counts.merge(value, 1, Integer::sum);
        }
        return counts;
    }
}
