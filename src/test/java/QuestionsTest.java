/** Promises 11 to 22: what there is, and what would be; nothing of it changes anything. */
public final class QuestionsTest {
    private static final Checks CHECKS = new Checks();
    private static final int LEAST = Integer.MIN_VALUE, MOST = Integer.MAX_VALUE;

    private static void due(String call, long got, long want) {
        CHECKS.due(call, got, want);
    }

    /** Persons of pride 9 and tact 4, so that neither apologies nor weak seconds open a way. */
    private static QuarrelWays proud(int persons) {
        QuarrelWays ways = new QuarrelWays();
        for (int person = 0; person < persons; person++) {
            ways.person(9, 4);
        }
        return ways;
    }

    private static void persons() {
        CHECKS.of("promise 11");
        QuarrelWays ways = proud(4);
        ways.person(3, 8);
        ways.second(1, 4);
        ways.second(3, 4);
        ways.second(4, 3);
        ways.second(0, 3);
        due("of(3, 8)", ways.of(3, 8), 17);
        ways.second(0, 2);
        ways.allow(3);
        ways.insult(0, 1, 9);
        ways.insult(0, 2, 9);
        ways.insult(1, 2, 9);
        ways.pass(24);
        ways.fight(0);
        ways.fight(1);
        int[][] told = {
            {5, 4, 2, 72, 2, 0, 0, 2, 0},
            {9, 4, 4, 72, 1, 1, 1, 1, 0},
            {9, 4, -6, 72, 0, 2, 1, 1, 1},
            {9, 4, 4, 0, 0, 0, 0, 0, 16},
            {3, 8, 3, 0, 0, 0, 0, 0, 10}};
        for (int person = 0; person < told.length; person++) {
            for (int what = 0; what < told[person].length; what++) {
                due("of(" + person + ", " + what + ")", ways.of(person, what), told[person][what]);
            }
            due("of(person, 9)", ways.of(person, 9), -2);
            due("of(person, -1)", ways.of(person, -1), -2);
            due("of(person, most)", ways.of(person, MOST), -2);
        }
        ways.fight(2);
        due("of(1, 7)", ways.of(1, 7), 2);
        due("of(1, 6)", ways.of(1, 6), 1);
        due("of(2, 6)", ways.of(2, 6), 2);
        due("of(5, 0)", ways.of(5, 0), -1);
        due("of(5, 9)", ways.of(5, 9), -1);
        due("of(-1, 0)", ways.of(-1, 0), -1);
        due("of(-1, -1)", ways.of(-1, -1), -1);
        due("of(least, 0)", ways.of(LEAST, 0), -1);
        ways.pass(71);
        due("of(0, 3)", ways.of(0, 3), 1);
        ways.pass(1);
        due("of(0, 3)", ways.of(0, 3), 0);
        ways.pass(1);
        due("of(0, 3)", ways.of(0, 3), 0);
    }

    private static void quarrels() {
        CHECKS.of("promise 12");
        QuarrelWays ways = proud(3);
        ways.pass(4);
        ways.insult(1, 0, 9);
        ways.insult(0, 2, 7);
        ways.swear(2);
        ways.pass(24);
        ways.settle(1, 3);
        ways.fight(0);
        ways.insult(2, 1, 8);
        ways.pass(6);
        int[][] told = {{1, 0, 9, 30, 2, -6, 0, 0}, {0, 2, 7, 30, 1, 3, -6, 0}, {2, 1, 8, 6, 0, -6, -6, 8}};
        for (int quarrel = 0; quarrel < told.length; quarrel++) {
            for (int what = 0; what < told[quarrel].length; what++) {
                due("quarrel(" + quarrel + ", " + what + ")", ways.quarrel(quarrel, what), told[quarrel][what]);
            }
            due("quarrel(quarrel, 8)", ways.quarrel(quarrel, 8), -2);
            due("quarrel(quarrel, -1)", ways.quarrel(quarrel, -1), -2);
        }
        due("quarrel(3, 0)", ways.quarrel(3, 0), -1);
        due("quarrel(3, 8)", ways.quarrel(3, 8), -1);
        due("quarrel(-1, 0)", ways.quarrel(-1, 0), -1);
        due("quarrel(-1, -1)", ways.quarrel(-1, -1), -1);
        due("quarrel(most, 7)", ways.quarrel(MOST, 7), -1);
        QuarrelWays all = new QuarrelWays();
        for (int person = 0; person < 4; person++) {
            all.person(0, 9);
        }
        all.second(0, 2);
        all.second(1, 3);
        all.insult(0, 1, 1);
        all.settle(0, 0);
        all.swear(1);
        all.insult(1, 0, 1);
        due("all but cooling: quarrel(1, 7)", all.quarrel(1, 7), 27);
        all.pass(12);
        due("all ways: quarrel(1, 7)", all.quarrel(1, 7), 31);
        int allowed = 31;
        for (int way = 0; way < 5; way++) {
            all.allow(way);
            allowed ^= 1 << way;
            due("those that are allowed: quarrel(1, 7)", all.quarrel(1, 7), allowed);
        }
    }

    private static void records() {
        CHECKS.of("promise 13");
        QuarrelWays ways = proud(10);
        due("record(0, 0)", ways.record(0, 0), -1);
        due("record(0, 3)", ways.record(0, 3), -1);
        for (int person = 0; person < 9; person++) {
            ways.pass(1);
            ways.swear(person);
        }
        due("record(8, 2)", ways.record(8, 2), 0);
        due("record(9, 2)", ways.record(9, 2), -1);
        ways.insult(9, 8, 9);
        ways.pass(1);
        ways.settle(0, 3);
        ways.insult(9, 8, 9);
        due("record(11, 0)", ways.record(11, 0), 3);
        due("record(11, 1)", ways.record(11, 1), 1);
        due("record(11, 2)", ways.record(11, 2), 0);
        due("record(12, 0)", ways.record(12, 0), -1);
        ways.insult(9, 7, 9);
        due("the oldest is told no more: record(11, 2)", ways.record(11, 2), 1);
        due("record(12, 0)", ways.record(12, 0), -1);
        int[][] latest = {{0, 10, 2}, {0, 10, 1}, {1, 10, 0}, {0, 9, 0}, {3, 9, 8}, {3, 8, 7}};
        for (int rank = 0; rank < latest.length; rank++) {
            for (int what = 0; what < 3; what++) {
                due("record(" + rank + ", " + what + ")", ways.record(rank, what), latest[rank][what]);
            }
            due("record(rank, 3)", ways.record(rank, 3), -2);
            due("record(rank, -1)", ways.record(rank, -1), -2);
        }
        due("record(-1, 0)", ways.record(-1, 0), -1);
        due("record(12, 3)", ways.record(12, 3), -1);
        due("record(most, -1)", ways.record(MOST, -1), -1);
        due("record(least, 0)", ways.record(LEAST, 0), -1);
        for (int person = 6; person >= 0; person--) {
            ways.insult(9, person, 9);
        }
        for (int rank = 0; rank < 9; rank++) {
            due("nine insults: record(" + rank + ", 2)", ways.record(rank, 2), 9 - rank);
        }
        due("record(11, 0)", ways.record(11, 0), 3);
        due("record(11, 2)", ways.record(11, 2), 8);
        due("record(12, 0)", ways.record(12, 0), -1);
    }

    private static void pressing() {
        CHECKS.of("promise 14");
        QuarrelWays ways = proud(5);
        due("pressing(0)", ways.pressing(0), -1);
        ways.insult(0, 1, 4);
        ways.insult(0, 2, 6);
        ways.insult(1, 2, 4);
        ways.pass(1);
        ways.insult(3, 4, 8);
        int[] order = {1, 0, 2, 3};
        for (int rank = 0; rank < order.length; rank++) {
            due("pressing(" + rank + ")", ways.pressing(rank), order[rank]);
        }
        due("pressing(4)", ways.pressing(4), -1);
        due("pressing(-1)", ways.pressing(-1), -1);
        due("pressing(most)", ways.pressing(MOST), -1);
        due("pressing(least)", ways.pressing(LEAST), -1);
        ways.pass(2);
        int[] later = {1, 3, 0, 2};
        for (int rank = 0; rank < later.length; rank++) {
            due("later: pressing(" + rank + ")", ways.pressing(rank), later[rank]);
        }
        ways.swear(0);
        QuarrelWays close = proud(4);
        close.insult(0, 1, 6);
        close.pass(1);
        close.insult(0, 2, 9);
        close.pass(1);
        due("18 and 18: pressing(0)", close.pressing(0), 0);
        due("18 and 18: pressing(1)", close.pressing(1), 1);
        close.insult(0, 3, 9);
        close.insult(1, 2, 8);
        due("9 and 8: pressing(2)", close.pressing(2), 2);
        close.pass(1);
        due("24 and 27: pressing(0)", close.pressing(0), 1);
        due("24 and 27: pressing(1)", close.pressing(1), 0);
        QuarrelWays byOne = proud(4);
        byOne.insult(0, 1, 8);
        byOne.insult(2, 3, 9);
        due("8 and 9: pressing(0)", byOne.pressing(0), 1);
        due("8 and 9: pressing(1)", byOne.pressing(1), 0);
        ways.settle(1, 3);
        due("behind a settled one: pressing(0)", ways.pressing(0), 3);
        due("behind a settled one: pressing(2)", ways.pressing(2), 2);
        due("behind a settled one: pressing(3)", ways.pressing(3), -1);
    }

    private static void insults() {
        CHECKS.of("promise 15");
        QuarrelWays ways = proud(5);
        due("insults(1)", ways.insults(1), 0);
        ways.insult(0, 1, 1);
        ways.insult(0, 2, 5);
        ways.insult(0, 3, 9);
        ways.insult(1, 2, 5);
        ways.swear(0);
        ways.settle(2, 3);
        int[] least = {4, 3, 3, 3, 3, 1, 1, 1, 1};
        for (int rank = 1; rank <= 9; rank++) {
            due("insults(" + rank + ")", ways.insults(rank), least[rank - 1]);
        }
        due("insults(0)", ways.insults(0), -2);
        due("insults(10)", ways.insults(10), -2);
        due("insults(-1)", ways.insults(-1), -2);
        due("insults(most)", ways.insults(MOST), -2);
    }

    private static void counts() {
        CHECKS.of("promise 16");
        QuarrelWays ways = proud(4);
        ways.set(QuarrelWays.COOL, 20);
        ways.set(QuarrelWays.NOTICE, 9);
        ways.set(QuarrelWays.OATH, 30);
        ways.set(QuarrelWays.PEACE, 40);
        ways.insult(0, 1, 9);
        ways.insult(2, 3, 9);
        ways.insult(0, 2, 9);
        ways.pass(8);
        due("within the notice: count(4)", ways.count(4), 0);
        ways.pass(1);
        due("count(4)", ways.count(4), 7);
        ways.insult(1, 3, 9);
        due("count(3)", ways.count(3), 15);
        ways.fight(2);
        ways.settle(0, 3);
        ways.allow(0);
        ways.put(Checks.packed("p12"));
        int[] told = {9, 4, 4, 10, 0, 1, 1, 30, 5, 20, 9, 30, 40, 3, 6};
        for (int what = 0; what < told.length; what++) {
            due("count(" + what + ")", ways.count(what), told[what]);
        }
        ways.allow(3);
        due("count(4)", ways.count(4), 2);
        due("count(7)", ways.count(7), 22);
        due("count(15)", ways.count(15), -2);
        due("count(-1)", ways.count(-1), -2);
        due("count(most)", ways.count(MOST), -2);
        due("count(least)", ways.count(LEAST), -2);
        ways.pass(30);
        due("oaths that ran out: count(8)", ways.count(8), 0);
    }

    private static void why() {
        CHECKS.of("promises 17 and 18");
        QuarrelWays ways = proud(2);
        ways.set(QuarrelWays.COOL, 4);
        ways.set(QuarrelWays.OATH, 5);
        ways.insult(0, 1, 9);
        due("why(0)", ways.why(0), 3);
        due("firstWay(0)", ways.firstWay(0), -6);
        ways.swear(1);
        due("under an oath: why(0)", ways.why(0), 2);
        due("under an oath: firstWay(0)", ways.firstWay(0), 3);
        ways.pass(23);
        due("why(0)", ways.why(0), 3);
        ways.pass(1);
        due("why(0)", ways.why(0), 0);
        due("firstWay(0)", ways.firstWay(0), -6);
        ways.pass(12);
        due("cooled: why(0)", ways.why(0), 2);
        due("cooled: firstWay(0)", ways.firstWay(0), 2);
        ways.settle(0, 2);
        due("settled: why(0)", ways.why(0), 1);
        due("settled: firstWay(0)", ways.firstWay(0), -6);
        ways.insult(0, 1, 9);
        due("firstWay(1)", ways.firstWay(1), 4);
        ways.allow(4);
        ways.pass(24);
        ways.fight(1);
        due("fought: why(1)", ways.why(1), 1);
        due("fought: firstWay(1)", ways.firstWay(1), -6);
        for (int none : new int[] {2, -1, MOST, LEAST}) {
            due("why(" + none + ")", ways.why(none), -1);
            due("firstWay(" + none + ")", ways.firstWay(none), -1);
        }
        QuarrelWays first = new QuarrelWays();
        for (int person = 0; person < 4; person++) {
            first.person(0, 9);
        }
        first.second(0, 2);
        first.second(1, 3);
        first.insult(0, 1, 1);
        first.pass(12);
        due("firstWay(0)", first.firstWay(0), 0);
        first.allow(0);
        due("firstWay(0)", first.firstWay(0), 1);
        first.allow(1);
        due("firstWay(0)", first.firstWay(0), 2);
    }

    private static void noSuchQuarrels(QuarrelWays ways) {
        for (int none : new int[] {ways.count(2), -1, MOST, LEAST}) {
            due("opensIn(" + none + ")", ways.opensIn(none), -1);
            due("dueIn(" + none + ")", ways.dueIn(none), -1);
            due("ifFought(" + none + ")", ways.ifFought(none), -1);
        }
    }

    private static void opening() {
        CHECKS.of("promise 19");
        QuarrelWays ways = proud(3);
        ways.set(QuarrelWays.COOL, 48);
        ways.insult(0, 1, 9);
        due("opensIn(0)", ways.opensIn(0), 432);
        ways.pass(99);
        due("opensIn(0)", ways.opensIn(0), 333);
        ways.allow(2);
        due("without cooling: opensIn(0)", ways.opensIn(0), -6);
        ways.swear(0);
        due("under an oath: opensIn(0)", ways.opensIn(0), 0);
        ways.allow(3);
        due("oaths barred: opensIn(0)", ways.opensIn(0), -6);
        ways.allow(2);
        ways.set(QuarrelWays.COOL, 12);
        ways.pass(8);
        due("opensIn(0)", ways.opensIn(0), 1);
        ways.pass(1);
        due("opensIn(0)", ways.opensIn(0), 0);
        ways.pass(50);
        due("long cooled: opensIn(0)", ways.opensIn(0), 0);
        ways.settle(0, 2);
        due("settled: opensIn(0)", ways.opensIn(0), -5);
        noSuchQuarrels(ways);
        noSuchQuarrels(new QuarrelWays());
    }

    private static void dueing() {
        CHECKS.of("promise 20");
        QuarrelWays ways = proud(3);
        ways.insult(0, 1, 9);
        due("dueIn(0)", ways.dueIn(0), 24);
        ways.swear(1);
        due("an oath of 72: dueIn(0)", ways.dueIn(0), 72);
        ways.allow(3);
        due("oaths barred: dueIn(0)", ways.dueIn(0), 24);
        ways.allow(3);
        ways.set(QuarrelWays.OATH, 107);
        ways.swear(0);
        due("the longer oath: dueIn(0)", ways.dueIn(0), 107);
        ways.set(QuarrelWays.OATH, 108);
        ways.swear(2);
        ways.insult(2, 1, 9);
        due("cooled when the oath ends: dueIn(1)", ways.dueIn(1), -6);
        ways.allow(2);
        due("cooling barred: dueIn(1)", ways.dueIn(1), 108);
        ways.allow(2);
        ways.pass(30);
        due("notice has passed: dueIn(0)", ways.dueIn(0), 77);
        ways.pass(77);
        due("dueIn(0)", ways.dueIn(0), 0);
        due("cools as the oath ends: dueIn(1)", ways.dueIn(1), -6);
        ways.pass(1);
        due("cooled: dueIn(0)", ways.dueIn(0), -6);
        ways.settle(0, 2);
        due("settled: dueIn(0)", ways.dueIn(0), -5);
        ways.allow(2);
        ways.set(QuarrelWays.PEACE, 400);
        ways.insult(1, 0, 9);
        due("peace of 400 hours: dueIn(2)", ways.dueIn(2), 401);
        ways.set(QuarrelWays.PEACE, 0);
        due("peace of this hour: dueIn(2)", ways.dueIn(2), 24);
        ways.set(QuarrelWays.NOTICE, 0);
        due("peace of this hour, no notice: dueIn(2)", ways.dueIn(2), 1);
        ways.allow(4);
        due("peace barred: dueIn(2)", ways.dueIn(2), 0);
        ways.person(4, 0);
        ways.insult(3, 0, 5);
        due("an apology: dueIn(3)", ways.dueIn(3), -6);
        ways.allow(0);
        due("apologies barred: dueIn(3)", ways.dueIn(3), 0);
        ways.set(QuarrelWays.NOTICE, 99);
        due("notice of 99: dueIn(3)", ways.dueIn(3), 99);
        ways.second(3, 2);
        ways.second(0, 1);
        ways.insult(3, 1, 4);
        ways.second(1, 0);
        due("seconds: dueIn(4)", ways.dueIn(4), -6);
        ways.allow(1);
        due("seconds barred: dueIn(4)", ways.dueIn(4), 99);
        noSuchQuarrels(ways);
        QuarrelWays soon = proud(2);
        soon.set(QuarrelWays.COOL, 2);
        soon.set(QuarrelWays.NOTICE, 18);
        soon.insult(0, 1, 9);
        due("cooled at the notice: dueIn(0)", soon.dueIn(0), -6);
        soon.set(QuarrelWays.NOTICE, 17);
        due("an hour before it is cooled: dueIn(0)", soon.dueIn(0), 17);
        soon.pass(17);
        due("why(0)", soon.why(0), 0);
        soon.pass(1);
        due("why(0)", soon.why(0), 2);
    }

    private static void hypotheticalInsult() {
        CHECKS.of("promise 21");
        QuarrelWays ways = proud(4);
        ways.set(QuarrelWays.PEACE, 3);
        ways.set(QuarrelWays.COOL, 1);
        due("ifInsulted(0, 1, 1)", ways.ifInsulted(0, 1, 1), 0);
        ways.second(0, 2);
        ways.second(1, 3);
        due("seconds of tact 8: ifInsulted(0, 1, 4)", ways.ifInsulted(0, 1, 4), 2);
        due("seconds of tact 8: ifInsulted(0, 1, 5)", ways.ifInsulted(0, 1, 5), 0);
        ways.insult(1, 0, 9);
        due("with an open quarrel: ifInsulted(0, 1, 4)", ways.ifInsulted(0, 1, 4), 2);
        ways.pass(90);
        due("it is cool only later: ifInsulted(0, 1, 9)", ways.ifInsulted(0, 1, 9), 0);
        ways.settle(0, 2);
        ways.pass(3);
        due("peace: ifInsulted(0, 1, 9)", ways.ifInsulted(0, 1, 9), 16);
        due("peace: ifInsulted(1, 0, 9)", ways.ifInsulted(1, 0, 9), 16);
        ways.pass(1);
        due("peace is over: ifInsulted(1, 0, 9)", ways.ifInsulted(1, 0, 9), 0);
        ways.swear(2);
        due("an oath: ifInsulted(2, 3, 9)", ways.ifInsulted(2, 3, 9), 8);
        due("an oath: ifInsulted(3, 2, 9)", ways.ifInsulted(3, 2, 9), 8);
        due("count(2)", ways.count(2), 1);
        due("ifInsulted(4, 0, 1)", ways.ifInsulted(4, 0, 1), -1);
        due("ifInsulted(0, 4, 1)", ways.ifInsulted(0, 4, 1), -1);
        due("ifInsulted(-1, 0, 1)", ways.ifInsulted(-1, 0, 1), -1);
        due("ifInsulted(0, -1, 0)", ways.ifInsulted(0, -1, 0), -1);
        due("ifInsulted(4, 4, 0)", ways.ifInsulted(4, 4, 0), -1);
        due("ifInsulted(0, 0, 1)", ways.ifInsulted(0, 0, 1), -2);
        due("ifInsulted(0, 1, 0)", ways.ifInsulted(0, 1, 0), -2);
        due("ifInsulted(0, 1, 10)", ways.ifInsulted(0, 1, 10), -2);
        QuarrelWays full = new QuarrelWays();
        full.person(5, 0);
        full.person(9, 0);
        for (int quarrel = 0; quarrel < 12; quarrel++) {
            full.insult(0, 1, 1);
            full.settle(quarrel, 0);
        }
        due("behind twelve quarrels: ifInsulted(0, 1, 9)", full.ifInsulted(0, 1, 9), 17);
        due("behind twelve quarrels: ifInsulted(1, 0, 9)", full.ifInsulted(1, 0, 9), 16);
        full.allow(4);
        due("peace barred: ifInsulted(1, 0, 9)", full.ifInsulted(1, 0, 9), 0);
    }

    private static void hypotheticalDuel() {
        CHECKS.of("promise 22");
        QuarrelWays ways = new QuarrelWays();
        ways.person(9, 2);
        ways.person(3, 5);
        ways.person(2, 5);
        ways.insult(0, 1, 9);
        ways.insult(1, 2, 9);
        ways.insult(2, 0, 9);
        due("13 and 13, the offended one: ifFought(0)", ways.ifFought(0), 1);
        due("13 and 12, the offender: ifFought(1)", ways.ifFought(1), 1);
        due("12 and 13, the offended one: ifFought(2)", ways.ifFought(2), 0);
        ways.swear(0);
        ways.settle(0, 3);
        ways.insult(1, 0, 9);
        due("13 and 13, the other way round: ifFought(3)", ways.ifFought(3), 0);
        due("settled: ifFought(0)", ways.ifFought(0), 1);
        due("nothing is fought: of(1, 7)", ways.of(1, 7), 0);
        ways.pass(99);
        ways.allow(4);
        ways.fight(1);
        due("fought: ifFought(1)", ways.ifFought(1), 1);
        noSuchQuarrels(ways);
    }

    /** No question changes an answer of another one, nor the history. */
    private static void nothingChanges() {
        CHECKS.of("promises 11 to 22");
        QuarrelWays ways = proud(3);
        ways.insult(0, 1, 9);
        ways.insult(1, 2, 1);
        ways.swear(2);
        ways.pass(30);
        String before = Checks.view(ways);
        int undoable = ways.count(14);
        for (int first = -1; first < 4; first++) {
            ways.pressing(first);
            ways.insults(first);
            ways.why(first);
            ways.firstWay(first);
            ways.opensIn(first);
            ways.dueIn(first);
            ways.ifFought(first);
            for (int next = -1; next < 4; next++) {
                ways.ifInsulted(first, next, 3);
            }
        }
        CHECKS.holds("all is as it was", before.equals(Checks.view(ways)));
        due("count(14)", ways.count(14), undoable);
    }

    public static void main(String[] args) {
        persons();
        quarrels();
        records();
        pressing();
        insults();
        counts();
        why();
        opening();
        dueing();
        hypotheticalInsult();
        hypotheticalDuel();
        nothingChanges();
        CHECKS.end();
    }
}
