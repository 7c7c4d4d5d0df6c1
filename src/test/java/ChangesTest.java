/** Promises 1 to 10: a new object, and the changes. */
public final class ChangesTest {
    private static final int NO_SUCH = -1, BAD_VALUE = -2, TOO_MANY = -4, NOT_POSSIBLE = -5, NONE = -6;
    private static final int OATH = 2, PEACE = 3;
    private static final int LEAST = Integer.MIN_VALUE, MOST = Integer.MAX_VALUE;
    private static final String NEW = "Promise 1: A new object", SET = "Promise 2: set", PERSON = "Promise 3: person",
        SECOND = "Promise 4: second", ALLOW = "Promise 5: allow", INSULT = "Promise 6: insult", SETTLE = "Promise 7: settle",
        FIGHT = "Promise 8: fight", SWEAR = "Promise 9: swear", PASS = "Promise 10: pass";
    private static final Sentences DOC = new Sentences(NEW, SET, PERSON, SECOND, ALLOW, INSULT, SETTLE, FIGHT, SWEAR, PASS);

    /** Calls that the busy town refuses, with each of some values that are out of a range. */
    private interface With {
        int call(Ways ways, int value);
    }

    private static void refuses(String name, int error, With with, int... values) {
        for (int value : values) {
            DOC.keeps(Towns::busy, name + " with " + value, x -> with.call(x, value), error);
        }
    }

    private static Ways busy() {
        Ways ways = new Ways();
        Towns.busy(ways);
        return ways;
    }

    // ---- Promise 1

    private static void newObject() {
        DOC.of(NEW, "Creates a town without persons, at the hour 0.");
        Ways ways = new Ways();
        int[] first = {0, 0, 0, 0, 0, 0, 0, 31, 0, 12, 24, 72, 100, 0, 0};
        for (int what = 0; what < first.length; what++) {
            DOC.due("count(" + what + ")", ways.count(what), first[what]);
        }
        DOC.due("of(0, 0)", ways.of(0, 0), NO_SUCH);
        DOC.due("quarrel(0, 0)", ways.quarrel(0, 0), NO_SUCH);
        DOC.due("record(0, 0)", ways.record(0, 0), NO_SUCH);
        DOC.due("pressing(0)", ways.pressing(0), NO_SUCH);
        DOC.due("insults(1)", ways.insults(1), 0);
        DOC.due("fault()", ways.fault(), 0);
        DOC.due("undo()", ways.undo(), NOT_POSSIBLE);
        DOC.due("restore(0)", ways.restore(0), NOT_POSSIBLE);
        DOC.due("restore(1)", ways.restore(1), NOT_POSSIBLE);
        Ways other = new Ways();
        Towns.busy(ways);
        DOC.due("another object's count(1)", other.count(1), 0);
        DOC.due("another object's count(14)", other.count(14), 0);
    }

    // ---- Promise 2

    private static void settings() {
        DOC.of(SET, "Changes a setting.");
        int[] first = {12, 24, 72, 100};
        for (int setting = 0; setting < 4; setting++) {
            Ways ways = new Ways();
            ways.set(setting, 40);
            for (int other = 0; other < 4; other++) {
                DOC.due("count(" + (9 + other) + ")", ways.count(9 + other), other == setting ? 40 : first[other]);
            }
        }
        DOC.of(SET, "This is a change.");
        for (int setting = 0; setting < 4; setting++) {
            int number = setting;
            DOC.records(Towns::busy, "set(" + setting + ", 30)", x -> x.set(number, 30));
            DOC.records(x -> x.person(1, 1), "set to what it was", x -> x.set(number, first[number]));
        }
        DOC.of(SET, "Returns the previous value;");
        Ways ways = new Ways();
        DOC.due("set(NOTICE, 0)", ways.set(1, 0), 24);
        DOC.due("set(NOTICE, 99)", ways.set(1, 99), 0);
        DOC.due("set(NOTICE, 99)", ways.set(1, 99), 99);
        DOC.due("set(NOTICE, 98)", ways.set(1, 98), 99);
        ways.undo();
        DOC.due("set(NOTICE, 1) behind undo()", ways.set(1, 1), 99);
        DOC.of(SET, "BAD_VALUE if there is no such setting, or the value is out of its range.");
        refuses("set(setting, 1)", BAD_VALUE, (x, setting) -> x.set(setting, 1), -1, 4, 9, LEAST, MOST);
        refuses("set(COOL, value)", BAD_VALUE, (x, value) -> x.set(0, value), 0, 49, -1, LEAST, MOST);
        refuses("set(NOTICE, value)", BAD_VALUE, (x, value) -> x.set(1, value), -1, 100, LEAST, MOST);
        refuses("set(OATH, value)", BAD_VALUE, (x, value) -> x.set(2, value), 0, 201, -1, LEAST, MOST);
        refuses("set(PEACE, value)", BAD_VALUE, (x, value) -> x.set(3, value), -1, 401, LEAST, MOST);
    }

    // ---- Promise 3

    private static void persons() {
        DOC.of(PERSON, "A person comes.");
        Ways ways = new Ways().later(6);
        ways.person(3, 7);
        int[] told = {3, 7, NONE, 0, 0, 0, 0, 0, 0};
        for (int what = 0; what < told.length; what++) {
            DOC.due("of(0, " + what + ")", ways.of(0, what), told[what]);
        }
        DOC.due("count(1)", ways.count(1), 1);
        DOC.due("it is no event: record(0, 0)", ways.record(0, 0), NO_SUCH);
        DOC.of(PERSON, "This is a change.");
        DOC.records(Towns::busy, "person(0, 0)", x -> x.person(0, 0));
        DOC.records(x -> x.allow(0), "person(9, 9)", x -> x.person(9, 9));
        DOC.of(PERSON, "`pride`: 0 to 9");
        DOC.due("person(0, 4)", ways.person(0, 4), 1);
        DOC.due("of(1, 0)", ways.of(1, 0), 0);
        DOC.due("person(9, 4)", ways.person(9, 4), 2);
        DOC.due("of(2, 0)", ways.of(2, 0), 9);
        DOC.of(PERSON, "`tact`: 0 to 9");
        DOC.due("person(4, 0)", ways.person(4, 0), 3);
        DOC.due("of(3, 1)", ways.of(3, 1), 0);
        DOC.due("person(4, 9)", ways.person(4, 9), 4);
        DOC.due("of(4, 1)", ways.of(4, 1), 9);
        DOC.of(PERSON, "Returns the number;");
        for (int person = 5; person < 10; person++) {
            DOC.due("person(1, 1)", ways.person(1, 1), person);
        }
        ways.undo();
        DOC.due("behind undo(): person(1, 1)", ways.person(1, 1), 9);
        DOC.of(PERSON, "BAD_VALUE if pride or tact is out of range;");
        refuses("person(pride, 4)", BAD_VALUE, (x, pride) -> x.person(pride, 4), -1, 10, LEAST, MOST);
        refuses("person(4, tact)", BAD_VALUE, (x, tact) -> x.person(4, tact), -1, 10, LEAST, MOST);
        refuses("person(both, both)", BAD_VALUE, (x, both) -> x.person(both, both), -1, 10, LEAST, MOST);
        DOC.of(PERSON, "TOO_MANY if there are 10.");
        DOC.keeps(Towns::full, "person(5, 5)", x -> x.person(5, 5), TOO_MANY);
        DOC.keeps(Towns::full, "person(0, 9)", x -> x.person(0, 9), TOO_MANY);
        Ways nine = Towns.proud(9);
        DOC.due("there are 9: person(5, 5)", nine.person(5, 5), 9);
        DOC.due("there are 10: person(5, 5)", nine.person(5, 5), TOO_MANY);
    }

    // ---- Promise 4

    private static void seconds() {
        DOC.of(SECOND, "A person takes a second.");
        Ways ways = Towns.proud(10);
        ways.second(0, 9);
        ways.second(9, 0);
        DOC.due("of(0, 2)", ways.of(0, 2), 9);
        DOC.due("of(9, 2)", ways.of(9, 2), 0);
        DOC.due("of(1, 2)", ways.of(1, 2), NONE);
        DOC.due("it is no event: record(0, 0)", ways.record(0, 0), NO_SUCH);
        DOC.of(SECOND, "This is a change.");
        DOC.records(Towns::busy, "second(2, 4), the first", x -> x.second(2, 4));
        DOC.records(Towns::busy, "second(0, 4), another", x -> x.second(0, 4));
        DOC.records(Towns::busy, "second(0, 3), the same again", x -> x.second(0, 3));
        DOC.records(x -> x.people(2, 1, 1), "second(0, 1)", x -> x.second(0, 1));
        DOC.of(SECOND, "Returns the previous one (NONE);");
        DOC.due("second(5, 0)", ways.second(5, 0), NONE);
        DOC.due("second(5, 9)", ways.second(5, 9), 0);
        DOC.due("second(5, 9)", ways.second(5, 9), 9);
        DOC.due("second(5, 4)", ways.second(5, 4), 9);
        DOC.of(SECOND, "NO_SUCH if there is no such person;");
        refuses("second(person, 0)", NO_SUCH, (x, person) -> x.second(person, 0), -1, 5, 10, NONE, LEAST, MOST);
        refuses("second(0, second)", NO_SUCH, (x, second) -> x.second(0, second), -1, 5, 10, NONE, LEAST, MOST);
        refuses("second(both, both)", NO_SUCH, (x, both) -> x.second(both, both), -1, 5, 10, NONE, LEAST, MOST);
        DOC.due("of no persons: second(0, 1)", new Ways().second(0, 1), NO_SUCH);
        DOC.of(SECOND, "BAD_VALUE if both are the same.");
        refuses("second(both, both)", BAD_VALUE, (x, both) -> x.second(both, both), 0, 1, 2, 3, 4);
    }

    // ---- Promise 5

    private static void allowing() {
        DOC.of(ALLOW, "Allows a way, or bars it, if it is allowed.");
        Ways ways = new Ways();
        ways.allow(3);
        DOC.due("barred: count(7)", ways.count(7), 23);
        ways.allow(3);
        DOC.due("allowed again: count(7)", ways.count(7), 31);
        DOC.of(ALLOW, "This is a change.");
        for (int way = 0; way < 5; way++) {
            int number = way;
            DOC.records(Towns::busy, "allow(" + way + ") that bars", x -> x.allow(number));
            DOC.records(x -> x.allow(number), "allow(" + way + ") that allows", x -> x.allow(number));
        }
        DOC.of(ALLOW, "`way`: 0 to 4");
        for (int way = 0; way < 5; way++) {
            DOC.due("allow(" + way + ")", new Ways().allow(way), 31 - (1 << way));
        }
        DOC.of(ALLOW, "Returns the ways that are allowed then, as a set;");
        int[] barred = {30, 28, 24, 16, 0};
        int[] allowed = {1, 3, 7, 15, 31};
        for (int way = 0; way < 5; way++) {
            DOC.due("allow(" + way + ")", ways.allow(way), barred[way]);
        }
        for (int way = 0; way < 5; way++) {
            DOC.due("allow(" + way + ") again", ways.allow(way), allowed[way]);
        }
        DOC.of(ALLOW, "NO_SUCH if there is no such way.");
        refuses("allow(way)", NO_SUCH, (x, way) -> x.allow(way), -1, 5, 31, 32, 36, LEAST, MOST);
    }

    // ---- Promise 6

    private static void insulting() {
        DOC.of(INSULT, "An insult: a quarrel comes.");
        Ways ways = Towns.proud(3);
        ways.pass(7);
        ways.insult(2, 1, 9);
        int[] told = {2, 1, 9, 0, 0, NONE, NONE, 0};
        for (int what = 0; what < told.length; what++) {
            DOC.due("quarrel(0, " + what + ")", ways.quarrel(0, what), told[what]);
        }
        int[] event = {0, 7, 0};
        for (int what = 0; what < event.length; what++) {
            DOC.due("record(0, " + what + ")", ways.record(0, what), event[what]);
        }
        DOC.due("count(2)", ways.count(2), 1);
        DOC.due("count(3)", ways.count(3), 1);
        DOC.of(INSULT, "This is a change.");
        DOC.records(Towns::busy, "insult(0, 1, 5)", x -> x.insult(0, 1, 5));
        DOC.records(x -> x.people(2, 1, 1), "insult(1, 0, 9)", x -> x.insult(1, 0, 9));
        DOC.of(INSULT, "`rank`: 1 to 9");
        DOC.due("insult(0, 1, 1)", ways.insult(0, 1, 1), 1);
        DOC.due("quarrel(1, 2)", ways.quarrel(1, 2), 1);
        DOC.due("insult(0, 2, 9)", ways.insult(0, 2, 9), 2);
        DOC.due("quarrel(2, 2)", ways.quarrel(2, 2), 9);
        DOC.of(INSULT, "Returns its number;");
        Ways many = Towns.proud(10);
        for (int quarrel = 0; quarrel < 9; quarrel++) {
            DOC.due("insult(9, " + quarrel + ", 5)", many.insult(9, quarrel, 5), quarrel);
        }
        many.undo();
        DOC.due("behind undo()", many.insult(9, 7, 5), NOT_POSSIBLE);
        DOC.due("behind undo()", many.insult(9, 8, 5), 8);
    }

    private static void insultsRefused() {
        DOC.of(INSULT, "NO_SUCH if there is no such person;");
        refuses("insult(offender, 0, 5)", NO_SUCH, (x, offender) -> x.insult(offender, 0, 5), -1, 5, 10, LEAST, MOST);
        refuses("insult(0, offended, 5)", NO_SUCH, (x, offended) -> x.insult(0, offended, 5), -1, 5, 10, LEAST, MOST);
        refuses("insult(both, both, 5)", NO_SUCH, (x, both) -> x.insult(both, both, 5), -1, 5, LEAST, MOST);
        refuses("insult(0, 5, rank)", NO_SUCH, (x, rank) -> x.insult(0, 5, rank), 0, 10, LEAST, MOST);
        DOC.of(INSULT, "BAD_VALUE if both are the same, or rank is out of range;");
        refuses("insult(both, both, 5)", BAD_VALUE, (x, both) -> x.insult(both, both, 5), 0, 1, 2, 3, 4);
        refuses("insult(0, 4, rank)", BAD_VALUE, (x, rank) -> x.insult(0, 4, rank), -1, 0, 10, LEAST, MOST);
        refuses("insult(2, 3, rank) of an open quarrel", BAD_VALUE, (x, rank) -> x.insult(2, 3, rank), 0, 10);
        DOC.of(INSULT, "NOT_POSSIBLE if both have an open quarrel;");
        refuses("insult(2, 3, rank)", NOT_POSSIBLE, (x, rank) -> x.insult(2, 3, rank), 1, 5, 9);
        refuses("insult(3, 2, rank)", NOT_POSSIBLE, (x, rank) -> x.insult(3, 2, rank), 1, 5, 9);
        refuses("insult(4, 3, rank) of one that is due", NOT_POSSIBLE, (x, rank) -> x.insult(4, 3, rank), 1, 9);
        DOC.due("behind one that was settled: insult(1, 0, 5)", busy().insult(1, 0, 5), 4);
        DOC.due("behind one that was fought: insult(2, 1, 5)", busy().insult(2, 1, 5), 4);
        DOC.of(INSULT, "TOO_MANY if there have been 12.");
        DOC.keeps(Towns::full, "insult(8, 9, 5)", x -> x.insult(8, 9, 5), TOO_MANY);
        DOC.keeps(Towns::full, "behind the one that was settled: insult(0, 1, 5)", x -> x.insult(0, 1, 5), TOO_MANY);
        DOC.keeps(Towns::full, "of an open quarrel: insult(2, 0, 5)", x -> x.insult(2, 0, 5), NOT_POSSIBLE);
        Ways ways = Towns.proud(10);
        for (int quarrel = 0; quarrel < 9; quarrel++) {
            ways.insult(0, quarrel + 1, 9);
        }
        ways.insult(1, 2, 9);
        ways.insult(1, 3, 9);
        DOC.due("there have been 11: insult(1, 4, 9)", ways.insult(1, 4, 9), 11);
        DOC.due("there have been 12: insult(1, 5, 9)", ways.insult(1, 5, 9), TOO_MANY);
        ways.swear(1);
        ways.settle(11, 3);
        DOC.due("one is settled, but there have been 12: insult(1, 5, 9)", ways.insult(1, 5, 9), TOO_MANY);
        ways.undo();
        ways.undo();
        DOC.due("12 still: insult(1, 5, 9)", ways.insult(1, 5, 9), TOO_MANY);
        ways.undo();
        DOC.due("the twelfth is undone: insult(1, 5, 9)", ways.insult(1, 5, 9), 11);
    }

    // ---- Promise 7

    private static void settling() {
        DOC.of(SETTLE, "Settles a quarrel by a way.");
        for (int way = 0; way < 5; way++) {
            Ways ways = new Ways().people(4, 0, 9);
            ways.second(0, 2);
            ways.second(1, 3);
            ways.insult(0, 1, 1);
            ways.settle(0, 0);
            ways.insult(1, 0, 1);
            ways.pass(12);
            ways.swear(1);
            ways.settle(1, way);
            int[] told = {1, 0, 1, 12, 1, way, NONE, 0};
            for (int what = 0; what < told.length; what++) {
                DOC.due("by way " + way + ": quarrel(1, " + what + ")", ways.quarrel(1, what), told[what]);
            }
            int[] event = {1, 12, 1};
            for (int what = 0; what < event.length; what++) {
                DOC.due("record(0, " + what + ")", ways.record(0, what), event[what]);
            }
        }
        DOC.of(SETTLE, "This is a change.");
        DOC.records(Towns::busy, "settle(2, 3)", x -> x.settle(2, 3));
        DOC.records(x -> x.carryOut("p00;p00;p09;p08;s0>2;s1>3;i01/1"), "settle(0, 0)", x -> x.settle(0, 0));
        DOC.records(x -> x.carryOut("p40;p40;p09;p08;s0>2;s1>3;i01/1"), "settle(0, 1)", x -> x.settle(0, 1));
        DOC.of(SETTLE, "Returns how many quarrels are open then;");
        DOC.due("settle(2, 3)", busy().settle(2, 3), 1);
        Ways ways = new Ways().people(4, 0, 0);
        for (int quarrel = 0; quarrel < 3; quarrel++) {
            ways.insult(quarrel, quarrel + 1, 9);
        }
        DOC.due("settle(1, 0)", ways.settle(1, 0), 2);
        DOC.due("settle(2, 0)", ways.settle(2, 0), 1);
        DOC.due("settle(0, 0)", ways.settle(0, 0), 0);
        Ways full = new Ways();
        Towns.full(full);
        DOC.due("settle(1, 3) of twelve", full.settle(1, 3), 10);
    }

    private static void settlingRefused() {
        DOC.of(SETTLE, "NO_SUCH if there is no such quarrel or way;");
        refuses("settle(quarrel, 3)", NO_SUCH, (x, quarrel) -> x.settle(quarrel, 3), -1, 4, 12, LEAST, MOST);
        refuses("settle(2, way)", NO_SUCH, (x, way) -> x.settle(2, way), -1, 5, 32, 35, LEAST, MOST);
        refuses("settle(0, way) of a settled one", NO_SUCH, (x, way) -> x.settle(0, way), -1, 5);
        DOC.due("settle(0, 0) without quarrels", new Ways().settle(0, 0), NO_SUCH);
        DOC.keeps(Towns::full, "settle(12, 3)", x -> x.settle(12, 3), NO_SUCH);
        DOC.of(SETTLE, "NOT_POSSIBLE if it is not open,");
        refuses("settle(0, way), it is settled", NOT_POSSIBLE, (x, way) -> x.settle(0, way), 0, 1, 2, 3, 4);
        refuses("settle(1, way), it is fought", NOT_POSSIBLE, (x, way) -> x.settle(1, way), 0, 1, 2, 3, 4);
        DOC.of(SETTLE, "or the way is not open for it.");
        refuses("settle(2, way)", NOT_POSSIBLE, (x, way) -> x.settle(2, way), 0, 1, 2, 4);
        refuses("settle(3, way), which is due", NOT_POSSIBLE, (x, way) -> x.settle(3, way), 0, 1, 2, 3, 4);
        DOC.keeps(x -> {
            Towns.busy(x);
            x.allow(3);
        }, "settle(2, 3), barred", x -> x.settle(2, 3), NOT_POSSIBLE);
        DOC.keeps(Towns.busyAt(96), "settle(2, 3) behind the oath", x -> x.settle(2, 3), NOT_POSSIBLE);
        Ways ways = busy();
        ways.pass(17);
        DOC.due("settle(2, 3) in the oath's last hour", ways.settle(2, 3), 1);
    }

    // ---- Promise 8

    private static void fighting() {
        DOC.of(FIGHT, "Fights a duel.");
        Ways ways = busy();
        ways.fight(3);
        int[] told = {3, 4, 7, 24, 2, NONE, 4, 0};
        for (int what = 0; what < told.length; what++) {
            DOC.due("quarrel(3, " + what + ")", ways.quarrel(3, what), told[what]);
        }
        int[] event = {2, 78, 3};
        for (int what = 0; what < event.length; what++) {
            DOC.due("record(0, " + what + ")", ways.record(0, what), event[what]);
        }
        int[][] persons = {{7, 8, NONE, 72}, {9, 9, NONE, 72}};
        for (int person = 3; person < 5; person++) {
            for (int what = 0; what < 4; what++) {
                DOC.due("of(" + person + ", " + what + ")", ways.of(person, what), persons[person - 3][what]);
            }
        }
        DOC.of(FIGHT, "This is a change.");
        DOC.records(Towns::busy, "fight(3)", x -> x.fight(3));
        DOC.records(x -> x.carryOut("p94;p94;i01/9;t24"), "fight(0)", x -> x.fight(0));
        DOC.of(FIGHT, "Returns who wins;");
        DOC.due("fight(3)", busy().fight(3), 4);
        Ways offender = new Ways();
        offender.person(9, 4);
        offender.person(9, 5);
        offender.insult(1, 0, 9);
        offender.pass(24);
        DOC.due("the offender: fight(0)", offender.fight(0), 1);
        DOC.of(FIGHT, "NO_SUCH if there is no such quarrel;");
        refuses("fight(quarrel)", NO_SUCH, (x, quarrel) -> x.fight(quarrel), -1, 4, 12, LEAST, MOST);
        DOC.due("fight(0) without quarrels", new Ways().fight(0), NO_SUCH);
        DOC.keeps(Towns::full, "fight(12)", x -> x.fight(12), NO_SUCH);
        DOC.of(FIGHT, "NOT_POSSIBLE if it is not due.");
        refuses("fight(quarrel)", NOT_POSSIBLE, (x, quarrel) -> x.fight(quarrel), 0, 1, 2);
        Ways ways23 = Towns.quarrel();
        ways23.pass(23);
        DOC.due("an hour early: fight(0)", ways23.fight(0), NOT_POSSIBLE);
        ways23.pass(1);
        DOC.due("in time: fight(0)", ways23.fight(0), 1);
        DOC.due("again: fight(0)", ways23.fight(0), NOT_POSSIBLE);
        Ways ways108 = Towns.quarrel();
        ways108.later(107);
        DOC.due("count(4)", ways108.count(4), 1);
        ways108.pass(1);
        DOC.due("cooled: fight(0)", ways108.fight(0), NOT_POSSIBLE);
    }

    // ---- Promise 9

    private static void swearing() {
        DOC.of(SWEAR, "A person swears an oath, which holds for OATH hours from now on.");
        for (int hours : new int[] {1, 72, 200}) {
            Ways ways = Towns.proud(3).later(8);
            ways.set(OATH, hours);
            ways.swear(1);
            DOC.due("of(1, 3)", ways.of(1, 3), hours);
            DOC.due("of(0, 3)", ways.of(0, 3), 0);
            DOC.due("count(8)", ways.count(8), 2);
            int[] event = {3, 8, 1};
            for (int what = 0; what < event.length; what++) {
                DOC.due("record(0, " + what + ")", ways.record(0, what), event[what]);
            }
            ways.later(hours);
            DOC.due("behind it: count(8)", ways.count(8), 0);
        }
        DOC.of(SWEAR, "This is a change.");
        DOC.records(Towns::busy, "swear(4)", x -> x.swear(4));
        DOC.records(x -> x.person(1, 1), "swear(0)", x -> x.swear(0));
        DOC.of(SWEAR, "Returns the hour until which it holds;");
        DOC.due("at hour 0: swear(0)", Towns.proud(1).swear(0), 72);
        DOC.due("at hour 78: swear(4)", busy().swear(4), 150);
        DOC.due("at the last hour: swear(0)", Towns.proud(1).later(9999).swear(0), 10071);
        DOC.of(SWEAR, "NO_SUCH if there is no such person;");
        refuses("swear(person)", NO_SUCH, (x, person) -> x.swear(person), -1, 5, 10, LEAST, MOST);
        DOC.due("swear(0) without persons", new Ways().swear(0), NO_SUCH);
        DOC.keeps(Towns::full, "swear(10)", x -> x.swear(10), NO_SUCH);
        DOC.of(SWEAR, "NOT_POSSIBLE if the person is under an oath.");
        refuses("swear(person) behind a duel", NOT_POSSIBLE, (x, person) -> x.swear(person), 1, 2);
        DOC.keeps(Towns.busyAt(95), "swear(1) in the oath's last hour", x -> x.swear(1), NOT_POSSIBLE);
        Ways ways = busy();
        ways.pass(18);
        DOC.due("swear(1) at its end", ways.swear(1), 168);
        DOC.due("swear(1) again", ways.swear(1), NOT_POSSIBLE);
        ways.set(OATH, 200);
        DOC.due("swear(1) for longer", ways.swear(1), NOT_POSSIBLE);
    }

    // ---- Promise 10

    private static void passing() {
        DOC.of(PASS, "Hours pass.");
        Ways ways = busy();
        ways.pass(2);
        DOC.due("count(0)", ways.count(0), 80);
        DOC.due("it is no event: record(0, 1)", ways.record(0, 1), 54);
        DOC.of(PASS, "This is a change.");
        DOC.records(Towns::busy, "pass(1)", x -> x.pass(1));
        DOC.records(x -> x.person(1, 1), "pass(99)", x -> x.pass(99));
        DOC.of(PASS, "`hours`: 1 to 99");
        ways.pass(1);
        DOC.due("pass(1): count(0)", ways.count(0), 81);
        ways.pass(99);
        DOC.due("pass(99): count(0)", ways.count(0), 180);
        DOC.of(PASS, "BAD_VALUE if hours is out of range;");
        refuses("pass(hours)", BAD_VALUE, (x, hours) -> x.pass(hours), 0, 100, -1, LEAST, MOST, MOST - 77);
        DOC.of(PASS, "NOT_POSSIBLE if the hour would be above 9999.");
        DOC.keeps(Towns.busyAt(9999), "pass(1) at 9999", x -> x.pass(1), NOT_POSSIBLE);
        DOC.keeps(Towns.busyAt(9999), "pass(99) at 9999", x -> x.pass(99), NOT_POSSIBLE);
        DOC.keeps(Towns.busyAt(9998), "pass(2) at 9998", x -> x.pass(2), NOT_POSSIBLE);
        DOC.keeps(Towns.busyAt(9901), "pass(99) at 9901", x -> x.pass(99), NOT_POSSIBLE);
        int[][] last = {{9998, 1}, {9901, 98}, {9900, 99}};
        for (int[] one : last) {
            Ways late = new Ways().later(one[0]);
            DOC.due("pass(" + one[1] + ") at " + one[0], late.pass(one[1]), 0);
            DOC.due("count(0)", late.count(0), 9999);
        }
    }

    private static void duelsThatAreDue() {
        DOC.of(PASS, "Returns how many duels are due then;");
        Ways ways = Towns.proud(10);
        for (int offended = 1; offended < 10; offended++) {
            ways.insult(0, offended, 9);
        }
        for (int offended = 2; offended < 5; offended++) {
            ways.insult(1, offended, 8);
        }
        DOC.due("pass(23)", ways.pass(23), 0);
        DOC.due("pass(1), all twelve", ways.pass(1), 12);
        DOC.due("pass(71)", ways.pass(71), 12);
        DOC.due("pass(1), three have cooled", ways.pass(1), 9);
        ways.fight(8);
        DOC.due("pass(1), 0 and 9 are under an oath", ways.pass(1), 0);
        DOC.due("pass(11), all have cooled", ways.pass(11), 0);
        DOC.due("without quarrels: pass(99)", new Ways().pass(99), 0);
        Ways oath = Towns.quarrel();
        oath.set(OATH, 30);
        oath.swear(0);
        DOC.due("an oath holds yet: pass(29)", oath.pass(29), 0);
        DOC.due("it holds no more: pass(1)", oath.pass(1), 1);
        Ways peace = Towns.quarrel();
        peace.set(PEACE, 40);
        peace.swear(0);
        peace.settle(0, 3);
        peace.allow(3);
        peace.insult(1, 0, 9);
        DOC.due("peace holds yet: pass(40)", peace.pass(40), 0);
        DOC.due("it holds no more: pass(1)", peace.pass(1), 1);
    }

    public static void main(String[] args) {
        newObject();
        settings();
        persons();
        seconds();
        allowing();
        insulting();
        insultsRefused();
        settling();
        settlingRefused();
        fighting();
        swearing();
        passing();
        duelsThatAreDue();
        DOC.end();
    }
}
