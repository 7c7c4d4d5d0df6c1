import java.lang.management.ManagementFactory;

/** All calls of a run share one room: once an object stands and its slots are used, no call makes anything. */
public final class RoomTest {
    private static final int MOST_BYTES_OF_AN_OBJECT = 16 * 1024;
    private static final Checks CHECKS = new Checks();

    private static long bytes() {
        return ((com.sun.management.ThreadMXBean) ManagementFactory.getThreadMXBean()).getCurrentThreadAllocatedBytes();
    }

    /** Each method, with arguments that reach all its branches over some rounds. */
    private static void callAll(QuarrelWays ways, int round) {
        ways.set(round % 5, 20);
        ways.person(9, round % 10);
        ways.second(round % 4, round % 3);
        ways.allow(round % 6);
        ways.insult(round % 4, (round + 1) % 4, 9);
        ways.settle(round % 12, round % 5);
        ways.fight(round % 12);
        ways.swear(round % 4);
        ways.pass(round % 101);
        for (int what = 0; what < 16; what++) {
            ways.of(round % 4, what);
            ways.quarrel(round % 12, what);
            ways.record(what, round % 3);
            ways.pressing(what);
            ways.insults(what);
            ways.count(what);
        }
        ways.why(0);
        ways.firstWay(0);
        ways.opensIn(0);
        ways.dueIn(0);
        ways.ifInsulted(0, 1, 5);
        ways.ifFought(0);
        ways.put(0x74393B7031323B61L);
        ways.put(0x31L);
        ways.fault();
        ways.carryOut();
        ways.put(0x6161L);
        ways.wipe();
        ways.save(round % 2);
        ways.restore(round % 2);
        ways.undo();
        ways.undo();
    }

    public static void main(String[] args) {
        QuarrelWays first = new QuarrelWays();
        for (int round = 0; round < 20; round++) {
            callAll(first, round);
        }
        bytes();

        CHECKS.of("room");
        long before = bytes();
        QuarrelWays ways = new QuarrelWays();
        ways.save(0);
        ways.save(1);
        long made = bytes() - before;
        CHECKS.holds("an object takes " + made + " bytes", made <= MOST_BYTES_OF_AN_OBJECT);

        before = bytes();
        for (int round = 0; round < 200; round++) {
            callAll(ways, round);
        }
        long used = bytes() - before;
        CHECKS.holds("calls take " + used + " bytes", used <= 1024);
        CHECKS.end();
    }
}
