import java.lang.reflect.Constructor;
import java.lang.reflect.Field;
import java.lang.reflect.Method;
import java.lang.reflect.Modifier;
import java.util.TreeSet;

/** The public face: the document's members and no others that can be seen. */
public final class FaceTest {
    public static void main(String[] args) {
        Checks c = new Checks();
        c.due("the class is public and final", Modifier.PUBLIC | Modifier.FINAL, WindowMeters.class.getModifiers());
        TreeSet<String> want = new TreeSet<>();
        want.add("public static final int WindowMeters.NONE");
        want.add("public WindowMeters()");
        want.add("public void WindowMeters.clear()");
        want.add("public int WindowMeters.window(int,int)"
                + " throws java.lang.IllegalArgumentException,java.lang.UnsupportedOperationException");
        want.add("public int WindowMeters.tuple(int,int,int)"
                + " throws java.lang.IllegalArgumentException,java.lang.UnsupportedOperationException");
        want.add("public void WindowMeters.tick(int) throws java.lang.IllegalArgumentException");
        want.add("public int WindowMeters.meter(int,int)"
                + " throws java.lang.IndexOutOfBoundsException,java.lang.IllegalArgumentException");
        want.add("public int WindowMeters.kth(int,int)"
                + " throws java.lang.IndexOutOfBoundsException,java.util.NoSuchElementException");
        want.add("public int WindowMeters.frequent(int)"
                + " throws java.lang.IndexOutOfBoundsException,java.util.NoSuchElementException");
        want.add("public int WindowMeters.below(int,int) throws java.lang.IndexOutOfBoundsException");
        want.add("public boolean WindowMeters.has(int,int) throws java.lang.IndexOutOfBoundsException");
        want.add("public int WindowMeters.now()");
        c.due("the face", want, seen());
        c.end();
    }

    private static TreeSet<String> seen() {
        TreeSet<String> seen = new TreeSet<>();
        for (Field f : WindowMeters.class.getDeclaredFields()) {
            if (!Modifier.isPrivate(f.getModifiers())) {
                seen.add(f.toString());
            }
        }
        for (Constructor<?> k : WindowMeters.class.getDeclaredConstructors()) {
            seen.add(k.toString());
        }
        for (Method m : WindowMeters.class.getDeclaredMethods()) {
            if (!Modifier.isPrivate(m.getModifiers())) {
                seen.add(m.toString());
            }
        }
        return seen;
    }
}
