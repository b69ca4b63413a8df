import java.lang.management.ManagementFactory;

/** The dearest calls take no room: what they need was made with the object. */
public final class RoomTest {
    private static final Due due = new Due("RoomTest");

    public static void main(String[] args) {
        LatestSets x = new LatestSets();
        dearest(x);
        long before = taken();
        for (int i = 0; i < 5; i++) {
            dearest(x);
        }
        long each = (taken() - before) / 5;
        due.holds("bytes for a round of all calls: " + each, each < 2000);
        before = taken();
        LatestSets[] many = new LatestSets[100];
        for (int i = 0; i < many.length; i++) {
            many[i] = new LatestSets();
        }
        each = (taken() - before) / many.length;
        due.holds("bytes for an object: " + each, each < 32000);
        imagesAreMadeOnce(x);
        due.end();
    }

    /** What is kept again is written over what was kept. */
    private static void imagesAreMadeOnce(LatestSets x) {
        x.image(0);
        x.image(1);
        long before = taken();
        for (int i = 0; i < 100; i++) {
            x.image(i % 2);
            x.restore(1 - i % 2);
        }
        long all = taken() - before;
        due.holds("bytes for 100 images: " + all, all < 2000);
    }

    private static long taken() {
        com.sun.management.ThreadMXBean bean =
            (com.sun.management.ThreadMXBean) ManagementFactory.getThreadMXBean();
        return bean.getThreadAllocatedBytes(Thread.currentThread().getId());
    }

    private static void dearest(LatestSets x) {
        x.members(6);
        x.wipe();
        for (char sign : "/</lf/mp>h-3+4~h".toCharArray()) {
            x.say(sign);
        }
        due.is("enact", x.enact(), 16);
        for (int m = 0; m < 6; m++) {
            x.member(m, 0, 3 * m);
            x.member(m, 1, m % 3);
        }
        x.hour(3, 99);
        x.comes(0, 3, 99);
        x.tends(3, 0);
        x.content(4);
        x.choice(0, 3, 4, 3);
        x.rests(3, 9999);
        x.laws(3, 1);
        due.is("move", x.move(12, 9, 0), LatestSets.NONE);
        x.forget();
        x.seen(30, 9);
        x.could(0, 3);
        x.rain(3, 8, 3, 3, 0);
        x.year(3, 99, 3, 2);
        x.image(0);
        x.restore(0);
        x.told(40);
    }
}
