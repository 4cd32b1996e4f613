import java.lang.management.ManagementFactory;

/** All calls of a run live in one room: an object is small, and no call makes anything more. */
public final class RoomTest {
    private static final int OBJECTS = 50;
    /** Some eleven thousand fields and elements of four bytes, with a header for each of some seventy objects. */
    private static final long MOST_BYTES_AN_OBJECT = 50000;
    private static long sink = 0;

    private static long allocated() {
        com.sun.management.ThreadMXBean bean = (com.sun.management.ThreadMXBean) ManagementFactory.getThreadMXBean();
        return bean.getCurrentThreadAllocatedBytes();
    }

    private static void callAll(DownByAHair x, int[][] words, int length) {
        for (int i = 0; i < 12; i++) sink += x.thing(17 * i + 1, i % 10);
        for (int[] w : words) sink += x.feed(w[0], w[1], w[2], w[3], w[4]);
        sink += x.end(length) + x.text() + x.fault(0) + x.text() + x.feed(7, 7, 7, 7, 7) + x.text() + x.fault(1);
        sink += (x.by(0) ? 1 : 0) + x.played(0) + x.undo() + x.take(10) + x.put(10, 1) + x.pass(7);
        for (int i = 0; i < 11; i++) sink += x.reading(i % 2, i % 2 == 0 ? 2 : 1);
        sink += x.span(0) + x.bent(33, 1) + x.balanced(311, 2) + x.weights(40, 3) + x.rest(4, 99, 1);
        sink += x.loadings(1023, 341) + x.gentle(1023, 341, 9) + x.now(4) + x.of(3, 4) + x.about(9);
        sink += x.image() + x.forget() + (x.beam(3, 4, 5) ? 1 : 0) + (x.weather(3, 4, 5) ? 1 : 0) + x.back();
        for (int i = 0; i < 60; i++) sink += x.pass(1);
    }

    public static void main(String[] args) {
        String text = "bears weight * 2 + (wet - hour) / (3 - pan);safe not turned > 9000 * 9;put 10 on 1;put 11 on 0;wait 3;";
        int[][] words = new int[(text.length() + 19) / 20][];
        for (int i = 0; i < words.length; i++) words[i] = Tape.words(text, 20 * i);
        callAll(new DownByAHair(), words, text.length());
        DownByAHair[] objects = new DownByAHair[OBJECTS];
        long start = allocated();
        for (int i = 0; i < OBJECTS; i++) objects[i] = new DownByAHair();
        long made = allocated();
        for (DownByAHair x : objects) callAll(x, words, text.length());
        long called = allocated();
        long each = (made - start) / OBJECTS;
        System.out.println("an object takes " + each + " bytes, its calls " + (called - made) / OBJECTS);
        if (each > MOST_BYTES_AN_OBJECT || called - made > 2000 || sink == 0) {
            System.out.println("that is too much");
            System.exit(1);
        }
    }
}
