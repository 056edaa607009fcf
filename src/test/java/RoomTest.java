import java.lang.management.ManagementFactory;

/** All calls of a run live in one room: objects are made in the constructor, and calls make none. */
final class RoomTest {
    private static final String DEAR = "guest a takes 3 slow 9;guest b takes 4 slow 9;guest c takes 5 slow 9;"
        + "guest d takes 3 slow 9;guest e takes 4 slow 9;guest f takes 5 slow 9;guest g takes 9 slow 9;"
        + "feud a b;feud b c;feud c d;feud d e;feud e f;feud f g;feud a c;feud a d;feud a e;feud a f;"
        + "boat 99;heat 99;across 9;leans 50;draw 1;cools not not not (minute % 99 * seat < left + heat / guests);";

    private static long used() {
        return ((com.sun.management.ThreadMXBean) ManagementFactory.getThreadMXBean())
            .getThreadAllocatedBytes(Thread.currentThread().getId());
    }

    private static int dearest(GravyRound x) {
        int sum = 0;
        for (int i = 0; i < 19; i++) {
            sum += x.warmest() + x.soonest() + x.peace() + x.greed(0, 1) + x.ask(0, i) + x.skin(1) + x.tables();
            sum += x.leave(1) + x.will(6, 0, 1) + x.limit() + x.best(3, 0) + x.treaty(50, 1) + x.clans();
            sum += x.minute() + x.pour(1) + x.warm(1) + x.makeUp(i) + (x.undo() ? 1 : 0) + (x.redo() ? 1 : 0);
            sum += x.seen(i, i % 7, false) + x.image(0) + x.lacking() + x.hungry() + x.fits(i) + x.back(0);
        }
        return sum;
    }

    public static void main(String[] args) {
        used();
        dearest(Due.dine(DEAR));
        long before = used();
        GravyRound x = new GravyRound();
        long made = used() - before;
        Due.put(x, DEAR);
        before = used();
        x.dinner();
        dearest(x);
        long calls = used() - before;
        System.out.println("bytes: a new object " + made + ", its calls " + calls);
        Due.is(1, "a new object has room (1: yes)", made < 40000 ? 1 : 0, 1);
        Due.is(4, "calls make nothing (1: yes)", calls < 10000 ? 1 : 0, 1);
        Due.end();
    }
}
