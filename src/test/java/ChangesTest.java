/** Promises 1 to 10: a new object, and the changes. */
public final class ChangesTest {
    private static final Checks CHECKS = new Checks();

    private static void due(String call, long got, long want) {
        CHECKS.due(call, got, want);
    }

    /** That a call which fails leaves everything as it is, the history too. */
    private interface Call {
        int on(QuarrelWays ways);
    }

    private static void fails(QuarrelWays ways, String call, int error, Call made) {
        String before = Checks.view(ways);
        int undoable = ways.count(14);
        due(call, made.on(ways), error);
        CHECKS.holds(call + " changes nothing", before.equals(Checks.view(ways)));
        due(call + " records nothing: count(14)", ways.count(14), undoable);
    }

    /** Two persons of much pride, no way open between them at once but by the code's own words. */
    private static QuarrelWays proudPair() {
        QuarrelWays ways = new QuarrelWays();
        ways.person(9, 4);
        ways.person(9, 4);
        return ways;
    }

    private static void newObject() {
        CHECKS.of("promise 1");
        QuarrelWays ways = new QuarrelWays();
        int[] first = {0, 0, 0, 0, 0, 0, 0, 31, 0, 12, 24, 72, 100, 0, 0};
        for (int what = 0; what < first.length; what++) {
            due("count(" + what + ")", ways.count(what), first[what]);
        }
        due("of(0, 0)", ways.of(0, 0), -1);
        due("quarrel(0, 0)", ways.quarrel(0, 0), -1);
        due("record(0, 0)", ways.record(0, 0), -1);
        due("pressing(0)", ways.pressing(0), -1);
        due("insults(1)", ways.insults(1), 0);
        due("fault()", ways.fault(), 0);
        due("undo()", ways.undo(), -5);
        due("restore(0)", ways.restore(0), -5);
        due("restore(1)", ways.restore(1), -5);
        QuarrelWays other = new QuarrelWays();
        ways.person(1, 2);
        due("another object's count(1)", other.count(1), 0);
    }

    private static void settings() {
        CHECKS.of("promise 2");
        int[] lowest = {1, 0, 1, 0};
        int[] highest = {48, 99, 200, 400};
        int[] first = {12, 24, 72, 100};
        for (int setting = 0; setting < 4; setting++) {
            QuarrelWays ways = new QuarrelWays();
            int low = lowest[setting];
            int high = highest[setting];
            int number = setting;
            due("set(" + setting + ", lowest)", ways.set(setting, low), first[setting]);
            due("count of it", ways.count(9 + setting), low);
            due("set(" + setting + ", highest)", ways.set(setting, high), low);
            due("count of it", ways.count(9 + setting), high);
            fails(ways, "set(" + setting + ", too low)", -2, x -> x.set(number, low - 1));
            fails(ways, "set(" + setting + ", too high)", -2, x -> x.set(number, high + 1));
            fails(ways, "set(" + setting + ", least int)", -2, x -> x.set(number, Integer.MIN_VALUE));
            fails(ways, "set(" + setting + ", most int)", -2, x -> x.set(number, Integer.MAX_VALUE));
            due("set(" + setting + ", the same)", ways.set(setting, high), high);
            due("count(14)", ways.count(14), 3);
            for (int other = 0; other < 4; other++) {
                due("count(" + (9 + other) + ")", ways.count(9 + other), other == setting ? high : first[other]);
            }
        }
        QuarrelWays ways = new QuarrelWays();
        fails(ways, "set(4, 1)", -2, x -> x.set(4, 1));
        fails(ways, "set(-1, 1)", -2, x -> x.set(-1, 1));
        fails(ways, "set(most int, 1)", -2, x -> x.set(Integer.MAX_VALUE, 1));
        fails(ways, "set(least int, 1)", -2, x -> x.set(Integer.MIN_VALUE, 1));
    }

    private static void persons() {
        CHECKS.of("promise 3");
        QuarrelWays ways = new QuarrelWays();
        due("person(0, 9)", ways.person(0, 9), 0);
        due("person(9, 0)", ways.person(9, 0), 1);
        due("of(0, 0)", ways.of(0, 0), 0);
        due("of(0, 1)", ways.of(0, 1), 9);
        due("of(1, 0)", ways.of(1, 0), 9);
        due("of(1, 1)", ways.of(1, 1), 0);
        due("of(1, 2)", ways.of(1, 2), -6);
        due("of(1, 3)", ways.of(1, 3), 0);
        fails(ways, "person(-1, 0)", -2, x -> x.person(-1, 0));
        fails(ways, "person(10, 0)", -2, x -> x.person(10, 0));
        fails(ways, "person(0, -1)", -2, x -> x.person(0, -1));
        fails(ways, "person(0, 10)", -2, x -> x.person(0, 10));
        fails(ways, "person(least, most)", -2, x -> x.person(Integer.MIN_VALUE, Integer.MAX_VALUE));
        for (int person = 2; person < 10; person++) {
            due("person(5, 5)", ways.person(5, 5), person);
        }
        due("count(1)", ways.count(1), 10);
        fails(ways, "an eleventh person", -4, x -> x.person(5, 5));
        fails(ways, "an eleventh person of too much pride", -2, x -> x.person(10, 5));
        due("count(1)", ways.count(1), 10);
        due("record(0, 0)", ways.record(0, 0), -1);
    }

    private static void seconds() {
        CHECKS.of("promise 4");
        QuarrelWays ways = new QuarrelWays();
        ways.person(1, 1);
        ways.person(2, 2);
        ways.person(3, 3);
        due("second(0, 1)", ways.second(0, 1), -6);
        due("count(14)", ways.count(14), 4);
        due("of(0, 2)", ways.of(0, 2), 1);
        due("second(0, 2)", ways.second(0, 2), 1);
        due("of(0, 2)", ways.of(0, 2), 2);
        due("second(0, 2)", ways.second(0, 2), 2);
        due("second(2, 0)", ways.second(2, 0), -6);
        due("count(14)", ways.count(14), 6);
        due("of(1, 2)", ways.of(1, 2), -6);
        fails(ways, "second(3, 0)", -1, x -> x.second(3, 0));
        fails(ways, "second(0, 3)", -1, x -> x.second(0, 3));
        fails(ways, "second(-1, 0)", -1, x -> x.second(-1, 0));
        fails(ways, "second(0, -6)", -1, x -> x.second(0, -6));
        fails(ways, "second(3, 3)", -1, x -> x.second(3, 3));
        fails(ways, "second(1, 1)", -2, x -> x.second(1, 1));
        due("record(0, 0)", ways.record(0, 0), -1);
    }

    private static void allowing() {
        CHECKS.of("promise 5");
        for (int way = 0; way < 5; way++) {
            QuarrelWays ways = new QuarrelWays();
            due("allow(" + way + ")", ways.allow(way), 31 ^ 1 << way);
            due("count(7)", ways.count(7), 31 ^ 1 << way);
            due("allow(" + way + ") again", ways.allow(way), 31);
            due("count(14)", ways.count(14), 2);
            fails(ways, "allow(5)", -1, x -> x.allow(5));
            fails(ways, "allow(-1)", -1, x -> x.allow(-1));
            fails(ways, "allow(32)", -1, x -> x.allow(32));
        }
        QuarrelWays ways = new QuarrelWays();
        due("allow(1)", ways.allow(1), 29);
        due("allow(3)", ways.allow(3), 21);
        due("allow(1)", ways.allow(1), 23);
    }

    private static void insulting() {
        CHECKS.of("promise 6");
        QuarrelWays ways = new QuarrelWays();
        for (int person = 0; person < 8; person++) {
            ways.person(9, 5);
        }
        ways.pass(7);
        due("insult(3, 1, 9)", ways.insult(3, 1, 9), 0);
        int[] told = {3, 1, 9, 0, 0, -6, -6, 0};
        for (int what = 0; what < told.length; what++) {
            due("quarrel(0, " + what + ")", ways.quarrel(0, what), told[what]);
        }
        due("record(0, 0)", ways.record(0, 0), 0);
        due("record(0, 1)", ways.record(0, 1), 7);
        due("record(0, 2)", ways.record(0, 2), 0);
        due("insult(0, 1, 1)", ways.insult(0, 1, 1), 1);
        due("quarrel(1, 2)", ways.quarrel(1, 2), 1);
        fails(ways, "insult(8, 0, 5)", -1, x -> x.insult(8, 0, 5));
        fails(ways, "insult(0, 8, 5)", -1, x -> x.insult(0, 8, 5));
        fails(ways, "insult(-1, 0, 5)", -1, x -> x.insult(-1, 0, 5));
        fails(ways, "insult(0, -1, 5)", -1, x -> x.insult(0, -1, 5));
        fails(ways, "insult(8, 8, 0)", -1, x -> x.insult(8, 8, 0));
        fails(ways, "insult(0, 8, 0)", -1, x -> x.insult(0, 8, 0));
        fails(ways, "insult(2, 2, 5)", -2, x -> x.insult(2, 2, 5));
        fails(ways, "insult(2, 4, 0)", -2, x -> x.insult(2, 4, 0));
        fails(ways, "insult(2, 4, 10)", -2, x -> x.insult(2, 4, 10));
        fails(ways, "insult(3, 1, 10)", -2, x -> x.insult(3, 1, 10));
        fails(ways, "insult(3, 1, 5)", -5, x -> x.insult(3, 1, 5));
        fails(ways, "insult(1, 3, 5)", -5, x -> x.insult(1, 3, 5));
        for (int quarrel = 2; quarrel < 9; quarrel++) {
            due("a quarrel more", ways.insult(7, quarrel - 2, 9), quarrel);
        }
        for (int quarrel = 9; quarrel < 12; quarrel++) {
            due("a quarrel more", ways.insult(6, quarrel - 7, 9), quarrel);
        }
        due("count(2)", ways.count(2), 12);
        fails(ways, "a thirteenth insult", -4, x -> x.insult(4, 5, 9));
        fails(ways, "a thirteenth insult of an open quarrel", -5, x -> x.insult(1, 3, 9));
        fails(ways, "a thirteenth insult of a bad rank", -2, x -> x.insult(4, 5, 10));
        QuarrelWays again = new QuarrelWays();
        again.person(1, 1);
        again.person(1, 1);
        again.insult(0, 1, 1);
        again.settle(0, 0);
        due("insult behind a settled quarrel", again.insult(1, 0, 1), 1);
    }

    private static void apology() {
        CHECKS.of("promise 7, apology");
        QuarrelWays ways = new QuarrelWays();
        ways.person(4, 4);
        ways.person(8, 4);
        ways.set(QuarrelWays.PEACE, 0);
        ways.insult(0, 1, 6);
        due("pride 4 and rank 6: quarrel(0, 7)", ways.quarrel(0, 7), 0);
        fails(ways, "settle(0, 0)", -5, x -> x.settle(0, 0));
        QuarrelWays other = new QuarrelWays();
        other.person(4, 4);
        other.person(8, 4);
        other.insult(0, 1, 5);
        due("pride 4 and rank 5: quarrel(0, 7)", other.quarrel(0, 7), 1);
        other.insult(1, 0, 1);
        due("settle(0, 0)", other.settle(0, 0), 0);
        due("of(0, 0)", other.of(0, 0), 3);
        due("of(1, 0)", other.of(1, 0), 8);
        due("of(0, 1)", other.of(0, 1), 4);
        due("quarrel(0, 4)", other.quarrel(0, 4), 1);
        due("quarrel(0, 5)", other.quarrel(0, 5), 0);
        due("quarrel(0, 6)", other.quarrel(0, 6), -6);
        due("quarrel(0, 7)", other.quarrel(0, 7), 0);
        QuarrelWays humble = new QuarrelWays();
        humble.person(0, 4);
        humble.person(8, 4);
        humble.insult(0, 1, 9);
        humble.settle(0, 0);
        due("pride stays 0: of(0, 0)", humble.of(0, 0), 0);
        humble = new QuarrelWays();
        humble.person(0, 4);
        humble.person(8, 4);
        humble.allow(0);
        humble.insult(0, 1, 1);
        fails(humble, "settle(0, 0) barred", -5, x -> x.settle(0, 0));
    }

    private static void wordsOfSeconds() {
        CHECKS.of("promise 7, seconds");
        QuarrelWays ways = proudPair();
        ways.person(0, 8);
        ways.person(0, 9);
        ways.insult(0, 1, 9);
        ways.second(0, 2);
        due("one second: quarrel(0, 7)", ways.quarrel(0, 7), 0);
        ways.second(1, 2);
        due("the same second: quarrel(0, 7)", ways.quarrel(0, 7), 0);
        ways.second(1, 3);
        due("tact 17 of 18: quarrel(0, 7)", ways.quarrel(0, 7), 0);
        fails(ways, "settle(0, 1)", -5, x -> x.settle(0, 1));
        ways.second(1, 0);
        due("a second of both: quarrel(0, 7)", ways.quarrel(0, 7), 0);
        QuarrelWays other = proudPair();
        other.person(0, 8);
        other.person(0, 9);
        other.insult(0, 1, 8);
        other.second(1, 3);
        due("the offended one's second alone: quarrel(0, 7)", other.quarrel(0, 7), 0);
        other.second(0, 1);
        due("the offended one as second: quarrel(0, 7)", other.quarrel(0, 7), 0);
        other.second(0, 2);
        due("tact 17 of 16: quarrel(0, 7)", other.quarrel(0, 7), 2);
        other.insult(2, 3, 9);
        due("settle(0, 1)", other.settle(0, 1), 1);
        due("of(2, 1)", other.of(2, 1), 9);
        due("of(3, 1)", other.of(3, 1), 9);
        due("of(0, 1)", other.of(0, 1), 4);
        due("of(1, 1)", other.of(1, 1), 4);
        due("of(0, 0)", other.of(0, 0), 9);
        due("quarrel(0, 5)", other.quarrel(0, 5), 1);
        QuarrelWays exact = proudPair();
        exact.person(0, 9);
        exact.person(0, 3);
        exact.second(0, 2);
        exact.second(1, 3);
        exact.insult(1, 0, 6);
        due("tact 12 of 12: quarrel(0, 7)", exact.quarrel(0, 7), 2);
        exact.settle(0, 1);
        due("of(2, 1)", exact.of(2, 1), 9);
        due("of(3, 1)", exact.of(3, 1), 4);
    }

    /** Seconds of tact enough, even one alone, so that nothing but who they are bars the way. */
    private static void whoTheSecondsAre() {
        CHECKS.of("promise 7, who the seconds are");
        QuarrelWays ways = proudPair();
        ways.person(9, 6);
        ways.person(9, 7);
        ways.insult(0, 1, 1);
        due("no second: quarrel(0, 7)", ways.quarrel(0, 7), 0);
        ways.second(0, 2);
        due("the offender's alone: quarrel(0, 7)", ways.quarrel(0, 7), 0);
        ways.second(1, 2);
        due("one for both: quarrel(0, 7)", ways.quarrel(0, 7), 0);
        ways.second(1, 0);
        due("the offender for the offended one: quarrel(0, 7)", ways.quarrel(0, 7), 0);
        ways.second(0, 1);
        due("each for the other: quarrel(0, 7)", ways.quarrel(0, 7), 0);
        ways.second(1, 3);
        due("the offended one for the offender: quarrel(0, 7)", ways.quarrel(0, 7), 0);
        ways.second(0, 2);
        due("two others: quarrel(0, 7)", ways.quarrel(0, 7), 2);
        ways.second(2, 3);
        ways.second(3, 2);
        due("whoever stands by the seconds: quarrel(0, 7)", ways.quarrel(0, 7), 2);
        due("settle(0, 1)", ways.settle(0, 1), 0);
        due("of(2, 1)", ways.of(2, 1), 7);
        due("of(3, 1)", ways.of(3, 1), 8);
        due("of(0, 1)", ways.of(0, 1), 4);
        due("of(1, 1)", ways.of(1, 1), 4);
        QuarrelWays alone = proudPair();
        alone.person(9, 9);
        alone.insult(0, 1, 1);
        alone.second(1, 2);
        due("the offended one's alone: quarrel(0, 7)", alone.quarrel(0, 7), 0);
    }

    private static void coolingOathsAndPeace() {
        CHECKS.of("promise 7, other ways");
        QuarrelWays ways = proudPair();
        ways.set(QuarrelWays.COOL, 10);
        ways.insult(0, 1, 3);
        ways.pass(29);
        due("29 hours: quarrel(0, 7)", ways.quarrel(0, 7), 0);
        fails(ways, "settle(0, 2)", -5, x -> x.settle(0, 2));
        ways.pass(1);
        due("30 hours: quarrel(0, 7)", ways.quarrel(0, 7), 4);
        String before = Checks.view(ways);
        due("settle(0, 2)", ways.settle(0, 2), 0);
        due("of(0, 0)", ways.of(0, 0), 9);
        due("of(0, 1)", ways.of(0, 1), 4);
        due("count(8)", ways.count(8), 0);
        CHECKS.holds("the quarrel is told otherwise", !before.equals(Checks.view(ways)));
        ways.insult(1, 0, 9);
        ways.pass(99);
        due("peace of 99 hours: quarrel(1, 7)", ways.quarrel(1, 7), 20);
        QuarrelWays peace = proudPair();
        peace.set(QuarrelWays.PEACE, 5);
        peace.swear(0);
        peace.insult(0, 1, 9);
        due("the offender's oath: quarrel(0, 7)", peace.quarrel(0, 7), 8);
        due("settle(0, 3)", peace.settle(0, 3), 0);
        due("quarrel(0, 5)", peace.quarrel(0, 5), 3);
        due("an oath stays: of(0, 3)", peace.of(0, 3), 72);
        peace.allow(3);
        peace.pass(5);
        peace.insult(1, 0, 9);
        due("peace 5 hours ago: quarrel(1, 7)", peace.quarrel(1, 7), 16);
        peace.person(9, 9);
        peace.insult(0, 2, 9);
        due("no peace with a third: quarrel(2, 7)", peace.quarrel(2, 7), 0);
        peace.pass(1);
        due("peace 6 hours ago: quarrel(1, 7)", peace.quarrel(1, 7), 0);
        fails(peace, "settle(1, 4)", -5, x -> x.settle(1, 4));
        peace.set(QuarrelWays.PEACE, 6);
        due("settle(1, 4)", peace.settle(1, 4), 1);
        due("quarrel(1, 5)", peace.quarrel(1, 5), 4);
        QuarrelWays oath = proudPair();
        oath.set(QuarrelWays.OATH, 2);
        oath.insult(0, 1, 9);
        oath.swear(1);
        oath.pass(1);
        due("the offended one's oath: quarrel(0, 7)", oath.quarrel(0, 7), 8);
        oath.pass(1);
        due("an oath that ran out: quarrel(0, 7)", oath.quarrel(0, 7), 0);
        oath.set(QuarrelWays.OATH, 1);
        oath.swear(0);
        due("the offender's oath of an hour: quarrel(0, 7)", oath.quarrel(0, 7), 8);
        oath.pass(1);
        due("it ran out: quarrel(0, 7)", oath.quarrel(0, 7), 0);
    }

    private static void settling() {
        CHECKS.of("promise 7");
        QuarrelWays ways = new QuarrelWays();
        ways.person(0, 0);
        ways.person(0, 0);
        ways.person(0, 0);
        ways.pass(8);
        ways.insult(0, 1, 9);
        ways.insult(1, 2, 9);
        ways.insult(2, 0, 9);
        fails(ways, "settle(3, 0)", -1, x -> x.settle(3, 0));
        fails(ways, "settle(-1, 0)", -1, x -> x.settle(-1, 0));
        fails(ways, "settle(0, 5)", -1, x -> x.settle(0, 5));
        fails(ways, "settle(0, -1)", -1, x -> x.settle(0, -1));
        fails(ways, "settle(0, 32)", -1, x -> x.settle(0, 32));
        fails(ways, "settle(0, 1)", -5, x -> x.settle(0, 1));
        ways.pass(2);
        due("settle(1, 0)", ways.settle(1, 0), 2);
        due("record(0, 0)", ways.record(0, 0), 1);
        due("record(0, 1)", ways.record(0, 1), 10);
        due("record(0, 2)", ways.record(0, 2), 1);
        fails(ways, "settle(1, 0) again", -5, x -> x.settle(1, 0));
        fails(ways, "settle(1, 5)", -1, x -> x.settle(1, 5));
        due("settle(0, 0)", ways.settle(0, 0), 1);
        due("settle(2, 0)", ways.settle(2, 0), 0);
        due("count(5)", ways.count(5), 3);
    }

    private static void fighting() {
        CHECKS.of("promise 8");
        QuarrelWays ways = new QuarrelWays();
        ways.person(9, 5);
        ways.person(1, 9);
        ways.pass(3);
        ways.insult(0, 1, 9);
        ways.pass(23);
        fails(ways, "fight(0) within the notice", -5, x -> x.fight(0));
        fails(ways, "fight(1)", -1, x -> x.fight(1));
        fails(ways, "fight(-1)", -1, x -> x.fight(-1));
        ways.pass(1);
        due("19 and 19, the offended one: fight(0)", ways.fight(0), 1);
        due("of(1, 0)", ways.of(1, 0), 2);
        due("of(0, 0)", ways.of(0, 0), 7);
        due("of(0, 1)", ways.of(0, 1), 5);
        due("of(1, 1)", ways.of(1, 1), 9);
        due("of(0, 3)", ways.of(0, 3), 72);
        due("of(1, 3)", ways.of(1, 3), 72);
        due("quarrel(0, 4)", ways.quarrel(0, 4), 2);
        due("quarrel(0, 5)", ways.quarrel(0, 5), -6);
        due("quarrel(0, 6)", ways.quarrel(0, 6), 1);
        due("record(0, 0)", ways.record(0, 0), 2);
        due("record(0, 1)", ways.record(0, 1), 27);
        due("record(0, 2)", ways.record(0, 2), 0);
        due("record(1, 0)", ways.record(1, 0), 0);
        fails(ways, "fight(0) again", -5, x -> x.fight(0));
        ways.insult(1, 0, 9);
        ways.pass(50);
        fails(ways, "fight(1) under oaths", -5, x -> x.fight(1));
        ways.pass(22);
        due("20 and 17: fight(1)", ways.fight(1), 1);
        due("of(1, 0)", ways.of(1, 0), 3);
        due("of(0, 0)", ways.of(0, 0), 5);
        QuarrelWays edges = new QuarrelWays();
        edges.person(9, 9);
        edges.person(1, 0);
        edges.set(QuarrelWays.NOTICE, 0);
        edges.set(QuarrelWays.OATH, 10);
        edges.allow(0);
        edges.allow(3);
        edges.set(QuarrelWays.OATH, 200);
        edges.swear(1);
        edges.set(QuarrelWays.OATH, 10);
        edges.insult(1, 0, 9);
        due("fight(0) with notice 0", edges.fight(0), 0);
        due("pride stays 9: of(0, 0)", edges.of(0, 0), 9);
        due("pride stays at 0 or more: of(1, 0)", edges.of(1, 0), 0);
        due("of(0, 3)", edges.of(0, 3), 10);
        due("the longer oath stays: of(1, 3)", edges.of(1, 3), 200);
        due("no event of an oath: record(0, 0)", edges.record(0, 0), 2);
        QuarrelWays offender = new QuarrelWays();
        offender.person(9, 5);
        offender.person(8, 5);
        offender.insult(0, 1, 9);
        offender.pass(24);
        due("19 and 18, the offender: fight(0)", offender.fight(0), 0);
        due("of(1, 0)", offender.of(1, 0), 6);
    }

    private static void swearing() {
        CHECKS.of("promise 9");
        QuarrelWays ways = proudPair();
        ways.pass(8);
        due("swear(1)", ways.swear(1), 80);
        due("of(1, 3)", ways.of(1, 3), 72);
        due("record(0, 0)", ways.record(0, 0), 3);
        due("record(0, 1)", ways.record(0, 1), 8);
        due("record(0, 2)", ways.record(0, 2), 1);
        fails(ways, "swear(1) again", -5, x -> x.swear(1));
        fails(ways, "swear(2)", -1, x -> x.swear(2));
        fails(ways, "swear(-1)", -1, x -> x.swear(-1));
        ways.pass(71);
        fails(ways, "swear(1) in its last hour", -5, x -> x.swear(1));
        ways.pass(1);
        ways.set(QuarrelWays.OATH, 1);
        due("swear(1) behind it", ways.swear(1), 81);
        due("count(8)", ways.count(8), 2);
        due("of(0, 3)", ways.of(0, 3), 0);
    }

    private static void passing() {
        CHECKS.of("promise 10");
        QuarrelWays ways = proudPair();
        ways.person(9, 0);
        ways.insult(0, 1, 9);
        ways.insult(1, 2, 9);
        due("pass(1)", ways.pass(1), 0);
        due("count(0)", ways.count(0), 1);
        fails(ways, "pass(0)", -2, x -> x.pass(0));
        fails(ways, "pass(-1)", -2, x -> x.pass(-1));
        fails(ways, "pass(100)", -2, x -> x.pass(100));
        fails(ways, "pass(most)", -2, x -> x.pass(Integer.MAX_VALUE));
        ways.insult(2, 0, 9);
        due("pass(22)", ways.pass(22), 0);
        due("pass(1)", ways.pass(1), 2);
        due("pass(1)", ways.pass(1), 3);
        due("pass(82)", ways.pass(82), 3);
        due("two have cooled: pass(1)", ways.pass(1), 1);
        due("pass(1)", ways.pass(1), 0);
        due("count(0)", ways.count(0), 109);
        for (int day = 0; day < 99; day++) {
            ways.pass(99);
        }
        due("count(0)", ways.count(0), 9910);
        fails(ways, "pass(90)", -5, x -> x.pass(90));
        fails(ways, "pass(100) near the end", -2, x -> x.pass(100));
        due("pass(89)", ways.pass(89), 0);
        due("count(0)", ways.count(0), 9999);
        fails(ways, "pass(1) at the end", -5, x -> x.pass(1));
    }

    public static void main(String[] args) {
        newObject();
        settings();
        persons();
        seconds();
        allowing();
        insulting();
        apology();
        wordsOfSeconds();
        whoTheSecondsAre();
        coolingOathsAndPeace();
        settling();
        fighting();
        swearing();
        passing();
        CHECKS.end();
    }
}
