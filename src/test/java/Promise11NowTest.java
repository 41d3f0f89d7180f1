public final class Promise11NowTest {
    public static void main(String[] args) {
        Checks c = new Checks();
        WindowMeters x = new WindowMeters();
        c.due("at first", 0, x.now());
        x.tuple(4, 0, 99);
        c.due("by a tuple", 4, x.now());
        x.tick(6);
        c.due("by a tick", 6, x.now());
        x.tuple(6, 0, 99);
        c.due("by a tuple of that time", 6, x.now());
        x.window(0, 100);
        x.meter(0, 1);
        c.due("asking changes nothing", 6, x.now());
        x.tuple(1000000, 0, 99);
        c.due("the greatest time", 1000000, x.now());
        x.clear();
        c.due("after clear", 0, x.now());
        c.end();
    }
}
