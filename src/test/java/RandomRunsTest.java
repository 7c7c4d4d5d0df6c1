import java.util.Random;

/** Runs of all the calls of an object, each answer held against PlainTown's; the same runs each time. */
public final class RandomRunsTest {
    private static final int RUNS = 6000, PARTS = 4, MOST_OF_A_PART = 180, MOST_OF_A_STEP = 12;
    private static final int[] WILD = {-1, -2, -6, 10, 12, 15, 31, 99, 100, 181, 182, 400, 401, 9999,
        Integer.MIN_VALUE, Integer.MIN_VALUE + 1, Integer.MAX_VALUE, Integer.MAX_VALUE - 1};
    private static final Checks CHECKS = new Checks();

    private final Random random;
    private final Ways real = new Ways();
    private final PlainTown plain = new PlainTown();
    /** How the run is made up: some have many persons, some few; some go slow, some fast. */
    private final int crowd;
    private final int pace;
    private final boolean proud;

    private RandomRunsTest(long seed) {
        random = new Random(seed);
        crowd = 2 + random.nextInt(9);
        pace = 1 + random.nextInt(99);
        proud = random.nextInt(3) > 0;
    }

    private int below(int bound) {
        return random.nextInt(bound);
    }

    /** A number from 0 on, mostly below a bound, at times at it or wild. */
    private int some(int bound) {
        int kind = below(60);
        return kind == 0 ? WILD[below(WILD.length)] : kind == 1 ? bound : below(bound);
    }

    private int somePerson() {
        return some(Math.max(1, Math.min(crowd, plain.count(1))));
    }

    private int someQuarrel() {
        return some(Math.max(1, plain.count(2)));
    }

    private int someRank() {
        return below(3) > 0 ? 9 - below(3) : 1 + some(9);
    }

    private String someOrder() {
        switch (below(10)) {
            case 0: return "p" + below(10) + below(10);
            case 1: return "s" + below(5) + ">" + below(5);
            case 2: return "i" + below(4) + below(4) + "/" + below(10);
            case 3: return "w" + below(13) + "." + below(6);
            case 4: return "f" + below(13);
            case 5: return "o" + below(6);
            case 6: return "t" + below(pace + 1);
            case 7: return "a" + below(6);
            case 8: return "t" + below(120);
            default: return "" + (char) (33 + below(94)) + below(100);
        }
    }

    private void check(String call, int got, int want) {
        CHECKS.due(call, got, want);
    }

    private void write() {
        StringBuilder text = new StringBuilder();
        for (int orders = 1 + below(4); orders > 0; orders--) {
            text.append(someOrder());
            if (orders > 1 || below(4) == 0) {
                text.append(';');
            }
        }
        for (int from = 0; from < text.length(); from += 8) {
            long characters = Ways.packed(text.substring(from, Math.min(text.length(), from + 8)));
            check("put(" + characters + ")", real.put(characters), plain.put(characters));
        }
        check("fault()", real.fault(), plain.fault());
    }

    private void change() {
        switch (below(30)) {
            case 0: case 1: {
                int setting = some(4);
                int value = below(2) == 0 ? some(60) : some(401);
                check("set(" + setting + ", " + value + ")", real.set(setting, value), plain.set(setting, value));
                return;
            }
            case 2: case 3: case 4: {
                int pride = proud ? 9 - below(3) : some(10);
                int tact = some(10);
                if (plain.count(1) < crowd || below(10) == 0) {
                    check("person(" + pride + ", " + tact + ")", real.person(pride, tact), plain.person(pride, tact));
                }
                return;
            }
            case 5: case 6: {
                int person = somePerson();
                int second = somePerson();
                check("second(" + person + ", " + second + ")", real.second(person, second), plain.second(person, second));
                return;
            }
            case 7: {
                int way = some(5);
                check("allow(" + way + ")", real.allow(way), plain.allow(way));
                return;
            }
            case 8: case 9: case 10: case 11: case 12: {
                int offender = somePerson();
                int offended = somePerson();
                int rank = someRank();
                String call = "insult(" + offender + ", " + offended + ", " + rank + ")";
                check(call, real.insult(offender, offended, rank), plain.insult(offender, offended, rank));
                return;
            }
            case 13: case 14: case 15: {
                int quarrel = someQuarrel();
                int way = some(5);
                check("settle(" + quarrel + ", " + way + ")", real.settle(quarrel, way), plain.settle(quarrel, way));
                return;
            }
            case 16: case 17: case 18: {
                int quarrel = someQuarrel();
                check("fight(" + quarrel + ")", real.fight(quarrel), plain.fight(quarrel));
                return;
            }
            case 19: {
                int person = somePerson();
                check("swear(" + person + ")", real.swear(person), plain.swear(person));
                return;
            }
            case 20: case 21: case 22: case 23: {
                int hours = below(2) == 0 ? 1 + below(pace) : some(100);
                check("pass(" + hours + ")", real.pass(hours), plain.pass(hours));
                return;
            }
            default:
                keepOrGoBack();
        }
    }

    private void keepOrGoBack() {
        switch (below(8)) {
            case 0: case 1:
                write();
                return;
            case 2: case 3:
                check("carryOut()", real.carryOut(), plain.carryOut());
                return;
            case 4:
                check("wipe()", real.wipe(), plain.wipe());
                return;
            case 5:
                check("undo()", real.undo(), plain.undo());
                return;
            case 6: {
                int slot = some(2);
                check("save(" + slot + ")", real.save(slot), plain.save(slot));
                return;
            }
            default: {
                int slot = some(2);
                check("restore(" + slot + ")", real.restore(slot), plain.restore(slot));
            }
        }
    }

    private void ask() {
        int first = someQuarrel();
        int next = some(9);
        switch (below(14)) {
            case 0: {
                int person = somePerson();
                check("of(" + person + ", " + next + ")", real.of(person, next), plain.of(person, next));
                return;
            }
            case 1: check("quarrel(" + first + ", " + next + ")", real.quarrel(first, next), plain.quarrel(first, next)); return;
            case 2: {
                int rank = some(12);
                int what = some(3);
                check("record(" + rank + ", " + what + ")", real.record(rank, what), plain.record(rank, what));
                return;
            }
            case 3: check("pressing(" + first + ")", real.pressing(first), plain.pressing(first)); return;
            case 4: check("insults(" + next + ")", real.insults(next), plain.insults(next)); return;
            case 5: {
                int what = some(15);
                check("count(" + what + ")", real.count(what), plain.count(what));
                return;
            }
            case 6: check("why(" + first + ")", real.why(first), plain.why(first)); return;
            case 7: check("firstWay(" + first + ")", real.firstWay(first), plain.firstWay(first)); return;
            case 8: check("opensIn(" + first + ")", real.opensIn(first), plain.opensIn(first)); return;
            case 9: check("dueIn(" + first + ")", real.dueIn(first), plain.dueIn(first)); return;
            case 10: {
                int one = somePerson();
                int other = somePerson();
                String call = "ifInsulted(" + one + ", " + other + ", " + next + ")";
                check(call, real.ifInsulted(one, other, next), plain.ifInsulted(one, other, next));
                return;
            }
            case 11: check("ifFought(" + first + ")", real.ifFought(first), plain.ifFought(first)); return;
            case 12: check("fault()", real.fault(), plain.fault()); return;
            default: {
                long characters = below(2) == 0 ? random.nextLong() : random.nextLong() & 0x7F7F7FL;
                check("put(" + characters + ")", real.put(characters), plain.put(characters));
            }
        }
    }

    /** All questions of a kind, with each number that is in range and the next ones on either side. */
    private void askAll(int part) {
        switch (part) {
            case 0: askAllOfPersons(); return;
            case 1: askAllOfQuarrels(); return;
            case 2: askAllOfRecord(); return;
            default: askAllWhatIf();
        }
    }

    private void askAllOfPersons() {
        for (int what = -1; what <= 15; what++) {
            check("count(" + what + ")", real.count(what), plain.count(what));
        }
        for (int person = -1; person <= 10; person++) {
            for (int what = -1; what <= 9; what++) {
                check("of(" + person + ", " + what + ")", real.of(person, what), plain.of(person, what));
            }
        }
    }

    private void askAllOfQuarrels() {
        for (int quarrel = -1; quarrel <= 12; quarrel++) {
            for (int what = -1; what <= 8; what++) {
                check("quarrel(" + quarrel + ", " + what + ")", real.quarrel(quarrel, what), plain.quarrel(quarrel, what));
            }
        }
    }

    private void askAllOfRecord() {
        for (int number = -1; number <= 12; number++) {
            for (int what = -1; what <= 3; what++) {
                check("record(" + number + ", " + what + ")", real.record(number, what), plain.record(number, what));
            }
            check("pressing(" + number + ")", real.pressing(number), plain.pressing(number));
            check("insults(" + number + ")", real.insults(number), plain.insults(number));
        }
    }

    private void askAllWhatIf() {
        for (int quarrel = -1; quarrel <= 12; quarrel++) {
            check("why(" + quarrel + ")", real.why(quarrel), plain.why(quarrel));
            check("firstWay(" + quarrel + ")", real.firstWay(quarrel), plain.firstWay(quarrel));
            check("opensIn(" + quarrel + ")", real.opensIn(quarrel), plain.opensIn(quarrel));
            check("dueIn(" + quarrel + ")", real.dueIn(quarrel), plain.dueIn(quarrel));
            check("ifFought(" + quarrel + ")", real.ifFought(quarrel), plain.ifFought(quarrel));
        }
        for (int offender = -1; offender <= 5; offender++) {
            for (int offended = -1; offended <= 5; offended++) {
                int rank = some(10);
                check("ifInsulted(" + offender + ", " + offended + ", " + rank + ")",
                    real.ifInsulted(offender, offended, rank), plain.ifInsulted(offender, offended, rank));
            }
        }
    }

    private void step() {
        if (below(5) < 3) {
            change();
        } else {
            ask();
        }
    }

    /** Steps, at some time all questions of a kind, and steps again until all calls of an object are made. */
    private void run(int part) {
        int pause = below(Ways.MOST_CALLS - MOST_OF_A_PART - MOST_OF_A_STEP);
        while (real.calls() < pause) {
            step();
        }
        askAll(part);
        while (real.calls() <= Ways.MOST_CALLS - MOST_OF_A_STEP) {
            step();
        }
        while (real.calls() < Ways.MOST_CALLS) {
            ask();
        }
    }

    public static void main(String[] args) {
        for (int seed = 0; seed < RUNS; seed++) {
            CHECKS.of("run " + seed);
            new RandomRunsTest(seed).run(seed % PARTS);
        }
        CHECKS.end();
    }
}
