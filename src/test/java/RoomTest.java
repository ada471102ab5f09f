import java.lang.management.ManagementFactory;

/** All calls of a run live in one room: no call may make objects, and an object itself is small. */
public final class RoomTest {
    private static final Checks checks = new Checks();

    public static void main(String[] args) {
        AlongsideLines x = moored();
        for (int i = 0; i < 3; i++) {
            every(x);
        }
        long before = allocated();
        for (int i = 0; i < 20; i++) {
            every(x);
        }
        long used = allocated() - before;
        checks.due("bytes that 20 times every call made: " + used, used < 4096 ? 1 : 0, 1);
        before = allocated();
        new AlongsideLines();
        used = allocated() - before;
        checks.due("bytes of an object: " + used, used < 16384 ? 1 : 0, 1);
        checks.end();
    }

    private static long allocated() {
        return ((com.sun.management.ThreadMXBean) ManagementFactory.getThreadMXBean()).getThreadAllocatedBytes(Thread.currentThread().getId());
    }

    private static AlongsideLines moored() {
        AlongsideLines x = Checks.at("gap 1000 8000;ship 4000 20;wind 3;post 1500 400;post 3500 300;post 5500 300;post 7500 400;");
        Checks.plan(x, "at 0 4 3;at 10 1 3;at 25 3 3;");
        Checks.tide(x, "hour 100;hour 150;hour 260;hour 340;hour 300;hour 200;hour 90;");
        return x;
    }

    private static void every(AlongsideLines x) {
        Checks.feed(x, "gap 1000 8000;ship 4000 20;wind 3;post 1500 400;post 3500 300;post 5500 300;post 7500 400;");
        x.quay();
        Checks.feed(x, "at 0 4 3;at 10 1 3;at 25 3 3;");
        x.plan();
        Checks.feed(x, "hour 100;hour 450;hour 260;hour 940;hour 300;");
        x.tide();
        x.put(1, 200);
        for (int l = 0; l < 6; l++) {
            x.fast(l, 40 * l - 100, l % 4, -1);
            x.line(l, 4);
            x.needs(l, 1, 300);
            x.tended(l, 300, -1);
        }
        x.keep(0);
        x.astern();
        x.off();
        x.wind(300);
        x.gap(300);
        x.tug(300);
        x.wakes(300);
        x.order(2);
        x.log(4500);
        x.judge(5);
        x.clear();
        x.tried(600, 15);
        x.follow(60);
        x.go(60);
        x.cast(0);
        x.heave(0, 100, 3);
        x.does(100, 3);
        x.odds(100, 3);
        x.veer(0, 30);
        x.goBack(0);
        x.told(3);
        x.post(0, 0);
        x.now(10);
        x.seed(9);
        x.fault();
    }
}
