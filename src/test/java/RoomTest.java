import java.lang.management.ManagementFactory;

/** All calls of a run live in one room: what an object needs is made with it, and calls make nothing. */
public final class RoomTest {
    private static final int OBJECTS = 60;
    // with the calls that fill it, an object is asked fewer than 512
    private static final int ROUNDS = 3;
    // room for what the machine itself makes now and then; a single int in each call would be far more
    private static final long SPARE_BYTES = 20000;
    // an object's own rows, some 4000 elements
    private static final long BYTES_OF_OBJECT = 32000;

    private static final com.sun.management.ThreadMXBean THREADS =
        (com.sun.management.ThreadMXBean) ManagementFactory.getThreadMXBean();

    public static void main(String[] args) {
        CutFromOthers[] made = new CutFromOthers[OBJECTS];
        useAll(filled(), 0);
        long start = bytes();
        for (int i = 0; i < OBJECTS; i++) {
            made[i] = new CutFromOthers();
        }
        long each = (bytes() - start) / OBJECTS;
        for (CutFromOthers x : made) {
            fill(x);
        }
        long before = bytes();
        long sum = 0;
        for (CutFromOthers x : made) {
            for (int round = 0; round < ROUNDS; round++) {
                sum += useAll(x, round);
            }
        }
        long spent = bytes() - before;
        boolean good = spent <= SPARE_BYTES && each <= BYTES_OF_OBJECT;
        System.out.println(good ? "calls make no objects (" + sum + ")" : "calls made " + spent + " bytes");
        System.out.println("an object has " + each + " bytes");
        if (!good) {
            System.exit(1);
        }
    }

    private static long bytes() {
        return THREADS.getThreadAllocatedBytes(Thread.currentThread().getId());
    }

    private static CutFromOthers filled() {
        CutFromOthers x = new CutFromOthers();
        fill(x);
        return x;
    }

    private static void fill(CutFromOthers x) {
        int[] shapes = {1, 3, 7, 39, 99, 103, 231, 2274, 7399, 507375};
        for (int shape : shapes) {
            x.figure(shape);
        }
        for (int i = 0; i < 6; i++) {
            x.block(33554431);
        }
        for (int kind = 0; kind < 8; kind++) {
            x.body(kind);
        }
    }

    private static long useAll(CutFromOthers x, int round) {
        long sum = 0;
        String text = "c>3?w-a*f;(w+n)*!(k=2)";
        for (int i = 0; i < text.length(); i++) {
            sum += x.feed(text.charAt(i));
        }
        sum += x.law() + x.mend(round % 10, 0, round) + x.of(0, 4) + x.brings(3, 5, 1) + x.size(3, 1) + x.turned(3, 1);
        sum += x.ways(13, 0) + x.inside(13) + x.around(3, 0) + x.common(3) + x.longest(0, 2) + x.richest(0, 4, 1);
        sum += x.with(0, 13) + x.spare(0, 0) + x.when(3, 1) + x.smallest(13, 1) + x.leave(0, 1) + x.byTurns(0, 2);
        sum += x.egg(231, 1) + x.row(0, 0, 3) + x.put(0, 1, -1) + x.judge(0, 0) + x.filled(0, 0, 0) + x.filled(0, 0, 1);
        sum += x.last(0, 0) + x.drawn(0, round, 20, -1) + x.image() + x.cut(9) + x.cut(1) + x.pass(1) + x.led(2) + x.back();
        sum += x.undo() + x.redo() + x.act(7, 3, round) + x.trace(2) + x.keep(1, 7) + x.taken(1, 4) + x.row(2, 2, 60);
        return sum + x.figures(2, 0, 3) + x.element(2, 1) + x.shift(2, 0, 2, 1, 59) + x.count(5);
    }
}
