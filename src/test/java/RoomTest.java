import java.lang.management.ManagementFactory;

/** All calls of a run live in one room: the dearest calls, 512 times, must make next to nothing. */
public final class RoomTest {
    private static final int CALLS = 512;
    private static final long ROOM = 400_000;

    private final Checks checks = new Checks();
    private final com.sun.management.ThreadMXBean threads =
            (com.sun.management.ThreadMXBean) ManagementFactory.getThreadMXBean();

    private interface Call {
        void to(AskNext x, int i);
    }

    public static void main(String[] args) {
        RoomTest test = new RoomTest();
        test.fits("post", (x, i) -> x.post(20, i));
        test.fits("best", (x, i) -> x.best(1, 80, 20, i));
        test.fits("mean", (x, i) -> x.mean(2, 20, i));
        test.fits("dusk", (x, i) -> x.dusk(2, 20, i, 100));
        test.fits("by", (x, i) -> x.by(2, i % 5, i, 0));
        test.fits("worth", (x, i) -> x.worth(i % 8));
        test.fits("never", (x, i) -> x.never(i % 8));
        test.fits("walk", (x, i) -> x.walk(i % 5, i % 8));
        test.fits("land", (x, i) -> x.land(0));
        test.fits("answer", (x, i) -> x.answer(i % 8, i % 5));
        test.fits("same", (x, i) -> x.same(i % 8, i % 5, 50));
        test.fits("found", (x, i) -> x.found(i % 9, i % 2 == 0));
        test.fits("image", (x, i) -> x.image());
        test.fits("restore", (x, i) -> x.restore());
        test.fits("row", (x, i) -> x.row(3, 2, 100));
        test.fits("keep", (x, i) -> x.keep(3, 1, i % 6, 9));
        test.fits("toss", (x, i) -> x.toss(2));
        test.checks.end("RoomTest");
    }

    private void fits(String name, Call call) {
        AskNext x = Checks.with("r01 9;r12 8;r23 7;r34 6;r45 5;r56 4;r67 3;r70 2;r04 30;",
                "w20 2 1;w20 3 2;w20 4 4;w20 5 8;w20 6 16;s0 0;s1 3;s2 0;s3 0;s4 0;",
                "m00 30;m11 20;m10 20;m23 40;m30 50;m42 50;m54 50;m60 20;m70 10;m03 20;b0;a1;");
        Checks.text(x, 0, "b0;");
        x.row(1, 0, 6);
        for (int i = 0; i < 6; i++) {
            x.put(1, i, i);
        }
        x.keep(2, 1, 3, 1);
        x.image();
        call.to(x, 0);
        long thread = Thread.currentThread().getId();
        long before = threads.getThreadAllocatedBytes(thread);
        for (int i = 0; i < CALLS; i++) {
            call.to(x, i);
        }
        long made = threads.getThreadAllocatedBytes(thread) - before;
        checks.isTrue(name + " makes little: " + made + " bytes", made < ROOM);
    }
}
