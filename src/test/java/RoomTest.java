import java.lang.management.ManagementFactory;

/** All calls of a run share one room, so an object with its 512 calls may take little of it. */
public final class RoomTest {
    private static final int OBJECTS = 60, MOST_BYTES = 16 * 1024;
    private static final Checks CHECKS = new Checks();

    private static long bytes() {
        return ((com.sun.management.ThreadMXBean) ManagementFactory.getThreadMXBean()).getCurrentThreadAllocatedBytes();
    }

    /** Each method, with arguments that reach all its branches over some rounds. */
    private static void callAll(Ways ways, int round) {
        ways.set(round % 5, 20);
        ways.person(9, round % 10);
        ways.second(round % 4, round % 3);
        ways.allow(round % 6);
        ways.insult(round % 4, (round + 1) % 4, 9);
        ways.settle(round % 12, round % 5);
        ways.fight(round % 12);
        ways.swear(round % 4);
        ways.pass(round % 101);
        for (int what = 0; what < 16; what++) {
            ways.of(round % 4, what);
            ways.quarrel(round % 12, what);
            ways.record(what, round % 3);
            ways.pressing(what);
            ways.insults(what);
            ways.count(what);
        }
        ways.why(0);
        ways.firstWay(0);
        ways.opensIn(0);
        ways.dueIn(0);
        ways.ifInsulted(0, 1, 5);
        ways.ifFought(0);
        ways.put(0x74393B7031323B61L);
        ways.put(0x31L);
        ways.fault();
        ways.carryOut();
        ways.put(0x6161L);
        ways.wipe();
        ways.save(round % 2);
        ways.restore(round % 2);
        ways.undo();
    }

    private static Ways run(int number) {
        Ways ways = new Ways();
        ways.people(4, 9, 9);
        ways.insult(0, 1, 9);
        ways.save(0);
        ways.save(1);
        for (int round = 0; ways.calls() < Ways.MOST_CALLS - 130; round++) {
            callAll(ways, 3 * number + round);
        }
        while (ways.calls() < Ways.MOST_CALLS) {
            ways.swear(0);
        }
        return ways;
    }

    public static void main(String[] args) {
        run(0);
        bytes();
        CHECKS.of("room");
        for (int number = 0; number < OBJECTS; number++) {
            long before = bytes();
            Ways ways = run(number);
            long used = bytes() - before;
            CHECKS.due("calls of run " + number, ways.calls(), Ways.MOST_CALLS);
            CHECKS.holds("run " + number + " takes " + used + " bytes, at most " + MOST_BYTES, used <= MOST_BYTES);
        }
        CHECKS.end();
    }
}
