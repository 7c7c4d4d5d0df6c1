/** What the document says ahead of its promises, but for the ways out and the texts: conventions, settings, numbers. */
public final class TermsTest {
    private static final int NO_SUCH = -1, BAD_VALUE = -2, BAD_TEXT = -3, TOO_MANY = -4, NOT_POSSIBLE = -5, NONE = -6;
    private static final int COOL = 0, NOTICE = 1, OATH = 2, PEACE = 3;
    private static final String PERSONS = "Settings";
    private static final Sentences DOC = new Sentences("What it is", "Terms", "Settings");

    // ---- What it is

    /** One call of each method. */
    private static final Sentences.Call[] EACH = {
        x -> x.set(3, 9), x -> x.person(3, 4), x -> x.second(2, 1), x -> x.allow(1), x -> x.insult(0, 2, 9),
        x -> x.settle(2, 3), x -> x.fight(3), x -> x.swear(0), x -> x.pass(18), x -> x.of(1, 3), x -> x.quarrel(2, 7),
        x -> x.record(7, 2), x -> x.pressing(1), x -> x.insults(8), x -> x.count(8), x -> x.why(3), x -> x.firstWay(2),
        x -> x.opensIn(3), x -> x.dueIn(3), x -> x.ifInsulted(0, 1, 9), x -> x.ifFought(3), x -> x.put('0'),
        x -> x.wipe(), x -> x.fault(), x -> x.carryOut(), x -> x.undo(), x -> x.save(1), x -> x.restore(0)};

    private static void fill(Ways ways, int calls, Sentences.Call call) {
        while (ways.calls() < calls) {
            call.on(ways);
        }
    }

    /** One town, through all that the first line names. */
    private static void firstLine() {
        DOC.of("What it is", "Duelling code that finds a way out of nearly each quarrel: persons with pride, tact, seconds and oaths, ");
        Ways ways = new Ways().people(1, 9, 4).people(1, 2, 5).people(1, 1, 8).people(1, 0, 9);
        DOC.due("of(0, 0)", ways.of(0, 0), 9);
        DOC.due("of(0, 1)", ways.of(0, 1), 4);
        DOC.due("second(0, 2)", ways.second(0, 2), NONE);
        DOC.due("swear(3)", ways.swear(3), 72);
        DOC.of("What it is", "insults by rank, quarrels that are open, ways out that a code allows, ");
        DOC.due("insult(0, 1, 7)", ways.insult(0, 1, 7), 0);
        DOC.due("count(3)", ways.count(3), 1);
        DOC.due("quarrel(0, 7)", ways.quarrel(0, 7), 0);
        DOC.due("why(0)", ways.why(0), 3);
        DOC.due("opensIn(0)", ways.opensIn(0), 84);
        DOC.due("dueIn(0)", ways.dueIn(0), 24);
        DOC.of("What it is", "apologies, words of seconds, cooling by hours, oaths, peace that was made before, ");
        DOC.due("second(1, 3)", ways.second(1, 3), NONE);
        DOC.due("settle(0, 1)", ways.settle(0, 1), 0);
        DOC.due("ifInsulted(1, 0, 9)", ways.ifInsulted(1, 0, 9), 18);
        DOC.due("insult(1, 0, 3)", ways.insult(1, 0, 3), 1);
        DOC.due("settle(1, 0)", ways.settle(1, 0), 0);
        DOC.due("insult(0, 3, 9)", ways.insult(0, 3, 9), 2);
        DOC.due("settle(2, 3)", ways.settle(2, 3), 0);
        DOC.due("insult(0, 2, 1)", ways.insult(0, 2, 1), 3);
        DOC.due("pass(12)", ways.pass(12), 0);
        DOC.due("settle(3, 2)", ways.settle(3, 2), 0);
        DOC.of("What it is", "duels that are due if no way is open, duels that are fought and their ends, a record, quarrels by how they press, ");
        DOC.due("insult(0, 2, 9)", ways.insult(0, 2, 9), 4);
        DOC.due("quarrel(4, 7)", ways.quarrel(4, 7), 16);
        DOC.due("allow(4)", ways.allow(4), 15);
        DOC.due("pass(24)", ways.pass(24), 1);
        DOC.due("fight(4)", ways.fight(4), 2);
        DOC.due("of(0, 0)", ways.of(0, 0), 7);
        DOC.due("record(0, 0)", ways.record(0, 0), 2);
        DOC.due("insult(1, 3, 5)", ways.insult(1, 3, 5), 5);
        DOC.due("insult(2, 3, 6)", ways.insult(2, 3, 6), 6);
        DOC.due("pressing(0)", ways.pressing(0), 6);
        DOC.of("What it is", "insults by rank, why a quarrel is not due, when a way opens, when a duel is due, what an insult would bring, ");
        DOC.due("insults(7)", ways.insults(7), 3);
        DOC.due("why(6)", ways.why(6), 2);
        DOC.due("opensIn(6)", ways.opensIn(6), 0);
        DOC.due("dueIn(6)", ways.dueIn(6), NONE);
        DOC.due("ifInsulted(0, 1, 9)", ways.ifInsulted(0, 1, 9), 10);
        DOC.of("What it is", "codes that are read from texts, undo, and saved states.");
        DOC.due("carryOut()", ways.carryOut("a4;t1"), 2);
        DOC.due("undo()", ways.undo(), 5);
        DOC.due("count(7)", ways.count(7), 15);
        DOC.due("save(0)", ways.save(0), 7);
        ways.pass(1);
        DOC.due("restore(0)", ways.restore(0), 7);
        DOC.due("count(0)", ways.count(0), 36);
    }

    private static void theLastCalls() {
        DOC.of("What it is", "An object is used for at most 512 calls after it has been made; what later calls answer is free.");
        for (int method = 0; method < EACH.length; method++) {
            Ways late = new Ways();
            Towns.busy(late);
            fill(late, Ways.MOST_CALLS - 1, x -> x.count(0));
            Ways soon = new Ways();
            Towns.busy(soon);
            DOC.due("the 512th call, method " + method, EACH[method].on(late), EACH[method].on(soon));
        }
        Ways changes = new Ways();
        fill(changes, 505, x -> x.allow(0));
        for (int left = 5; left >= 0; left--) {
            DOC.due("undo() behind 505 changes", changes.undo(), left);
        }
        DOC.due("the 512th call: count(7)", changes.count(7), 30);
        Ways events = Towns.proud(1);
        events.set(OATH, 1);
        while (events.calls() < 508) {
            events.swear(0);
            events.pass(1);
        }
        DOC.due("the 509th call, behind 253 events: record(11, 1)", events.record(11, 1), 241);
        DOC.due("the 510th call: record(0, 1)", events.record(0, 1), 252);
        DOC.due("the 511th call: record(12, 1)", events.record(12, 1), NO_SUCH);
        DOC.due("the 512th call: swear(0)", events.swear(0), 254);
        Ways texts = new Ways();
        while (texts.calls() < 510) {
            texts.put('a');
            texts.wipe();
        }
        DOC.due("the 511th call: put(f9)", texts.put(Ways.packed("f9")), 2);
        DOC.due("the 512th call: fault()", texts.fault(), NONE);
    }

    // ---- Conventions

    private static void errorCodes() {
        DOC.of("Terms", "CONVENTIONS. A method that fails returns one of the error codes NO_SUCH (-1), BAD_VALUE (-2), "
            + "BAD_TEXT (-3), TOO_MANY (-4) and NOT_POSSIBLE (-5);");
        DOC.due("NO_SUCH", QuarrelWays.NO_SUCH, -1);
        DOC.due("BAD_VALUE", QuarrelWays.BAD_VALUE, -2);
        DOC.due("BAD_TEXT", QuarrelWays.BAD_TEXT, -3);
        DOC.due("TOO_MANY", QuarrelWays.TOO_MANY, -4);
        DOC.due("NOT_POSSIBLE", QuarrelWays.NOT_POSSIBLE, -5);
        Ways ways = Towns.proud(10);
        DOC.due("swear(10)", ways.swear(10), -1);
        DOC.due("person(10, 0)", ways.person(10, 0), -2);
        DOC.due("carryOut()", ways.carryOut(), -3);
        DOC.due("person(0, 0)", ways.person(0, 0), -4);
        DOC.due("restore(0)", ways.restore(0), -5);
    }

    /** Each two errors of one method that can apply at once. */
    private static void orderOfErrors() {
        DOC.of("Terms", "it names its errors in the order in which they are checked, and the first one that applies is returned.");
        DOC.keeps(Towns::full, "person(10, 0) as the eleventh", x -> x.person(10, 0), BAD_VALUE);
        DOC.keeps(Towns::full, "person(0, 10) as the eleventh", x -> x.person(0, 10), BAD_VALUE);
        DOC.keeps(Towns::busy, "second(5, 5)", x -> x.second(5, 5), NO_SUCH);
        DOC.keeps(Towns::busy, "second(-1, -1)", x -> x.second(-1, -1), NO_SUCH);
        DOC.keeps(Towns::busy, "insult(5, 5, 5)", x -> x.insult(5, 5, 5), NO_SUCH);
        DOC.keeps(Towns::busy, "insult(0, 5, 10)", x -> x.insult(0, 5, 10), NO_SUCH);
        DOC.keeps(Towns::busy, "insult(-1, 0, 0)", x -> x.insult(-1, 0, 0), NO_SUCH);
        DOC.keeps(Towns::busy, "insult(2, 3, 0) of an open quarrel", x -> x.insult(2, 3, 0), BAD_VALUE);
        DOC.keeps(Towns::busy, "insult(3, 2, 10) of an open quarrel", x -> x.insult(3, 2, 10), BAD_VALUE);
        DOC.keeps(Towns::full, "insult(10, 0, 5) as the thirteenth", x -> x.insult(10, 0, 5), NO_SUCH);
        DOC.keeps(Towns::full, "insult(5, 5, 5) as the thirteenth", x -> x.insult(5, 5, 5), BAD_VALUE);
        DOC.keeps(Towns::full, "insult(5, 6, 10) as the thirteenth", x -> x.insult(5, 6, 10), BAD_VALUE);
        DOC.keeps(Towns::full, "insult(2, 0, 5) of an open quarrel, as the thirteenth", x -> x.insult(2, 0, 5), NOT_POSSIBLE);
        DOC.keeps(Towns::busy, "settle(0, 5) of one that is settled", x -> x.settle(0, 5), NO_SUCH);
        DOC.keeps(Towns::busy, "settle(1, -1) of one that is fought", x -> x.settle(1, -1), NO_SUCH);
        DOC.keeps(Towns.busyAt(9999), "pass(0) at the last hour", x -> x.pass(0), BAD_VALUE);
        DOC.keeps(Towns.busyAt(9999), "pass(100) at the last hour", x -> x.pass(100), BAD_VALUE);
        DOC.keeps(Towns::busy, "of(5, 9)", x -> x.of(5, 9), NO_SUCH);
        DOC.keeps(Towns::busy, "of(-1, -1)", x -> x.of(-1, -1), NO_SUCH);
        DOC.keeps(Towns::busy, "quarrel(4, 8)", x -> x.quarrel(4, 8), NO_SUCH);
        DOC.keeps(Towns::busy, "quarrel(-1, -1)", x -> x.quarrel(-1, -1), NO_SUCH);
        DOC.keeps(Towns::busy, "record(7, 3)", x -> x.record(7, 3), NO_SUCH);
        DOC.keeps(Towns::busy, "record(-1, -1)", x -> x.record(-1, -1), NO_SUCH);
        DOC.keeps(Towns::busy, "ifInsulted(5, 5, 5)", x -> x.ifInsulted(5, 5, 5), NO_SUCH);
        DOC.keeps(Towns::busy, "ifInsulted(0, -1, 0)", x -> x.ifInsulted(0, -1, 0), NO_SUCH);
        DOC.keeps(x -> x.write("p12;".repeat(20)), "put of a space and more on a full pad", x -> x.put(' ' << 8 | 'a'), BAD_VALUE);
        DOC.keeps(x -> x.write("p12;".repeat(20)), "put(0) on a full pad", x -> x.put(0), BAD_VALUE);
        DOC.keeps(Towns::busy, "restore(2), in which nothing was saved", x -> x.restore(2), BAD_VALUE);
    }

    private static void errorsChangeNothing() {
        DOC.of("Terms", "A call that returns an error changes nothing.");
        DOC.keeps(Towns::busy, "settle(99, 0)", x -> x.settle(99, 0), NO_SUCH);
        DOC.keeps(Towns::busy, "set(COOL, 49)", x -> x.set(COOL, 49), BAD_VALUE);
        DOC.keeps(x -> x.write("p12;t"), "carryOut()", x -> x.carryOut(), BAD_TEXT);
        DOC.keeps(Towns::full, "an eleventh person", x -> x.person(1, 1), TOO_MANY);
        DOC.keeps(Towns::busy, "restore(1)", x -> x.restore(1), NOT_POSSIBLE);
        Ways order = new Ways();
        Towns.busy(order);
        String before = Looks.town(order);
        order.wipe();
        DOC.due("carryOut() of an order that fails", order.carryOut("i23/5"), 0);
        DOC.holds("that order changes nothing", before.equals(Looks.town(order)));
    }

    private static void noneIsNoError() {
        DOC.of("Terms", "NONE (-6) is not an error;");
        DOC.due("NONE", QuarrelWays.NONE, -6);
        Ways ways = Towns.proud(2);
        DOC.due("second(0, 1)", ways.second(0, 1), NONE);
        DOC.due("it is done: of(0, 2)", ways.of(0, 2), 1);
        DOC.due("it is recorded: count(14)", ways.count(14), 3);
        DOC.due("it stops no text: carryOut()", ways.carryOut("s1>0;t1"), 2);
        DOC.due("count(0)", ways.count(0), 1);
        DOC.of("Terms", "it is returned only if no error applies.");
        DOC.keeps(Towns::busy, "a second of no person: of(5, 2)", x -> x.of(5, 2), NO_SUCH);
        DOC.keeps(Towns::busy, "second(5, 0)", x -> x.second(5, 0), NO_SUCH);
        DOC.keeps(Towns::busy, "second(4, 4)", x -> x.second(4, 4), BAD_VALUE);
        DOC.keeps(Towns::busy, "the way of no quarrel: quarrel(4, 5)", x -> x.quarrel(4, 5), NO_SUCH);
        DOC.keeps(Towns::busy, "the winner of no quarrel: quarrel(4, 6)", x -> x.quarrel(4, 6), NO_SUCH);
        DOC.keeps(Towns::busy, "firstWay(4)", x -> x.firstWay(4), NO_SUCH);
        Sentences.Start barred = x -> {
            Towns.busy(x);
            x.allow(2);
        };
        DOC.keeps(barred, "opensIn(4)", x -> x.opensIn(4), NO_SUCH);
        DOC.keeps(barred, "opensIn(0)", x -> x.opensIn(0), NOT_POSSIBLE);
        DOC.keeps(barred, "dueIn(4)", x -> x.dueIn(4), NO_SUCH);
        DOC.keeps(barred, "dueIn(1)", x -> x.dueIn(1), NOT_POSSIBLE);
    }

    private static void numbers() {
        DOC.of("Terms", "Everything is numbered from 0.");
        Ways ways = new Ways();
        DOC.due("the first person", ways.person(9, 4), 0);
        DOC.due("the next person", ways.person(9, 4), 1);
        DOC.due("the first insult", ways.insult(1, 0, 9), 0);
        DOC.due("the first setting: set(0, 5)", ways.set(0, 5), 12);
        DOC.due("the first slot: save(0)", ways.save(0), 1);
        DOC.due("the first way: allow(0)", ways.allow(0), 30);
        DOC.due("the latest event: record(0, 2)", ways.record(0, 2), 0);
        DOC.due("the quarrel that presses most: pressing(0)", ways.pressing(0), 0);
        DOC.due("the first thing: count(0)", ways.count(0), 0);
        DOC.due("the first thing: of(0, 0)", ways.of(0, 0), 9);
        DOC.due("the first thing: quarrel(0, 0)", ways.quarrel(0, 0), 1);
    }

    private static void hours() {
        DOC.of("Terms", "Times are told in hours.");
        Ways ways = Towns.quarrel();
        DOC.due("opensIn(0)", ways.opensIn(0), 108);
        DOC.due("dueIn(0)", ways.dueIn(0), 24);
        ways.pass(3);
        DOC.due("count(0)", ways.count(0), 3);
        DOC.due("quarrel(0, 3)", ways.quarrel(0, 3), 3);
        DOC.due("opensIn(0)", ways.opensIn(0), 105);
        DOC.due("dueIn(0)", ways.dueIn(0), 21);
        DOC.due("swear(0)", ways.swear(0), 75);
        ways.pass(1);
        DOC.due("of(0, 3)", ways.of(0, 3), 71);
        DOC.due("record(0, 1)", ways.record(0, 1), 3);
    }

    private static void sets() {
        DOC.of("Terms", "Sets of ways and persons are bit masks.");
        Ways ways = new Ways();
        Towns.full(ways);
        DOC.due("count(7)", ways.count(7), 31);
        DOC.due("count(8)", ways.count(8), 1);
        ways.swear(9);
        DOC.due("count(8)", ways.count(8), 1 | 512);
        DOC.due("of(3, 8)", ways.of(3, 8), 0);
        ways.second(0, 3);
        ways.second(9, 3);
        DOC.due("of(3, 8)", ways.of(3, 8), 1 | 512);
        DOC.due("quarrel(1, 7)", ways.quarrel(1, 7), 8);
        DOC.due("count(3), of quarrels", ways.count(3), 4094);
    }

    // ---- Settings

    private static void range(int setting, int least, int most, int first) {
        Ways ways = new Ways();
        DOC.due("the first value: count(" + (9 + setting) + ")", ways.count(9 + setting), first);
        DOC.due("set(" + setting + ", " + least + ")", ways.set(setting, least), first);
        DOC.due("count(" + (9 + setting) + ")", ways.count(9 + setting), least);
        DOC.due("set(" + setting + ", " + most + ")", ways.set(setting, most), least);
        DOC.due("count(" + (9 + setting) + ")", ways.count(9 + setting), most);
        DOC.keeps(Towns::busy, "set(" + setting + ", " + (least - 1) + ")", x -> x.set(setting, least - 1), BAD_VALUE);
        DOC.keeps(Towns::busy, "set(" + setting + ", " + (most + 1) + ")", x -> x.set(setting, most + 1), BAD_VALUE);
    }

    private static void cool() {
        DOC.of("Settings", "(In parentheses: range; first value.) COOL (1 to 48; 12)");
        range(COOL, 1, 48, 12);
        DOC.of("Settings", "hours of cooling for each rank;");
        int[][] least = {{1, 1, 1}, {1, 9, 9}, {12, 1, 12}, {48, 1, 48}, {48, 9, 432}};
        for (int[] one : least) {
            Ways ways = Towns.proud(2);
            ways.allow(0);
            ways.set(COOL, one[0]);
            ways.insult(0, 1, one[1]);
            ways.later(one[2] - 1);
            DOC.due("an hour early: quarrel(0, 7)", ways.quarrel(0, 7), 0);
            ways.later(1);
            DOC.due("in time: quarrel(0, 7)", ways.quarrel(0, 7), 4);
        }
        Ways later = Towns.quarrel();
        later.pass(27);
        later.set(COOL, 3);
        DOC.due("a quarrel that was there when COOL was set: quarrel(0, 7)", later.quarrel(0, 7), 4);
    }

    private static void notice() {
        DOC.of("Settings", "NOTICE (0 to 99; 24)");
        range(NOTICE, 0, 99, 24);
        DOC.of("Settings", "hours behind which a duel can be due;");
        for (int hours : new int[] {1, 24, 99}) {
            Ways ways = Towns.quarrel();
            ways.set(NOTICE, hours);
            ways.later(hours - 1);
            DOC.due("an hour early: why(0)", ways.why(0), 3);
            ways.pass(1);
            DOC.due("in time: why(0)", ways.why(0), 0);
        }
        Ways ways = Towns.quarrel();
        ways.set(NOTICE, 0);
        DOC.due("at once: why(0)", ways.why(0), 0);
    }

    private static void oath() {
        DOC.of("Settings", "OATH (1 to 200; 72)");
        range(OATH, 1, 200, 72);
        DOC.of("Settings", "hours for which an oath holds;");
        for (int hours : new int[] {1, 72, 200}) {
            Ways ways = Towns.proud(1);
            ways.set(OATH, hours);
            DOC.due("swear(0)", ways.swear(0), hours);
            ways.set(OATH, 50);
            DOC.due("as long as it was sworn for: of(0, 3)", ways.of(0, 3), hours);
            ways.later(hours - 1);
            DOC.due("in its last hour: count(8)", ways.count(8), 1);
            ways.pass(1);
            DOC.due("behind it: count(8)", ways.count(8), 0);
        }
    }

    private static void peace() {
        DOC.of("Settings", "PEACE (0 to 400; 100)");
        range(PEACE, 0, 400, 100);
        DOC.of("Settings", "hours for which peace holds.");
        for (int hours : new int[] {0, 1, 100, 400}) {
            Ways ways = new Ways().people(2, 0, 0);
            ways.set(PEACE, hours);
            ways.insult(0, 1, 9);
            ways.settle(0, 0);
            ways.allow(0);
            ways.later(hours);
            DOC.due("in its last hour: ifInsulted(0, 1, 9)", ways.ifInsulted(0, 1, 9), 16);
            ways.pass(1);
            DOC.due("behind it: ifInsulted(0, 1, 9)", ways.ifInsulted(0, 1, 9), 0);
        }
    }

    // ---- Persons

    private static void tenPersons() {
        DOC.of(PERSONS, "There are up to 10 persons, numbered in the order in which they came");
        Ways ways = new Ways();
        for (int person = 0; person < 10; person++) {
            DOC.due("person(" + person + ", " + (9 - person) + ")", ways.person(person, 9 - person), person);
        }
        for (int person = 0; person < 10; person++) {
            DOC.due("of(" + person + ", 0)", ways.of(person, 0), person);
            DOC.due("of(" + person + ", 1)", ways.of(person, 1), 9 - person);
        }
        DOC.due("count(1)", ways.count(1), 10);
        DOC.due("of(10, 0)", ways.of(10, 0), NO_SUCH);
        DOC.keeps(Towns::full, "an eleventh", x -> x.person(0, 0), TOO_MANY);
        ways.second(9, 8);
        DOC.due("the tenth has a second too: of(9, 2)", ways.of(9, 2), 8);
        DOC.due("the tenth gives an insult too", ways.insult(9, 8, 1), 0);
        DOC.due("the tenth swears too", ways.swear(9), 72);
    }

    private static void pointsOfPersons() {
        DOC.of(PERSONS, "each with a pride (0 to 9), a tact (0 to 9)");
        Ways ways = new Ways();
        ways.person(0, 9);
        ways.person(9, 0);
        DOC.due("of(0, 0)", ways.of(0, 0), 0);
        DOC.due("of(0, 1)", ways.of(0, 1), 9);
        DOC.due("of(1, 0)", ways.of(1, 0), 9);
        DOC.due("of(1, 1)", ways.of(1, 1), 0);
        DOC.keeps(Towns::busy, "person(-1, 5)", x -> x.person(-1, 5), BAD_VALUE);
        DOC.keeps(Towns::busy, "person(10, 5)", x -> x.person(10, 5), BAD_VALUE);
        DOC.keeps(Towns::busy, "person(5, -1)", x -> x.person(5, -1), BAD_VALUE);
        DOC.keeps(Towns::busy, "person(5, 10)", x -> x.person(5, 10), BAD_VALUE);
        DOC.of(PERSONS, "a second (another person), or none (at first)");
        DOC.due("of(0, 2)", ways.of(0, 2), NONE);
        DOC.due("second(0, 1)", ways.second(0, 1), NONE);
        DOC.due("of(0, 2)", ways.of(0, 2), 1);
        DOC.due("of(1, 2)", ways.of(1, 2), NONE);
        DOC.keeps(Towns::busy, "second(0, 0)", x -> x.second(0, 0), BAD_VALUE);
        DOC.of(PERSONS, "and the hour until which an oath holds (0 at first: none).");
        Ways late = new Ways().later(500).people(1, 5, 5);
        DOC.due("of(0, 3)", late.of(0, 3), 0);
        DOC.due("count(8)", late.count(8), 0);
        DOC.due("swear(0)", late.swear(0), 572);
    }

    private static void underAnOath() {
        DOC.of(PERSONS, "Someone is under an oath if that hour is above the hour of now.");
        Ways ways = Towns.quarrel();
        ways.pass(5);
        ways.set(OATH, 2);
        DOC.due("swear(1)", ways.swear(1), 7);
        ways.pass(1);
        DOC.due("an hour before: count(8)", ways.count(8), 2);
        DOC.due("an hour before: of(1, 3)", ways.of(1, 3), 1);
        DOC.due("an hour before: quarrel(0, 7)", ways.quarrel(0, 7), 8);
        DOC.due("an hour before: swear(1)", ways.swear(1), NOT_POSSIBLE);
        ways.pass(1);
        DOC.due("at that hour: count(8)", ways.count(8), 0);
        DOC.due("at that hour: of(1, 3)", ways.of(1, 3), 0);
        DOC.due("at that hour: quarrel(0, 7)", ways.quarrel(0, 7), 0);
        DOC.due("at that hour: swear(1)", ways.swear(1), 9);
    }

    // ---- Quarrels

    private static void twelveQuarrels() {
        DOC.of(PERSONS, "There are up to 12 quarrels, numbered in the order in which they came");
        Ways ways = Towns.proud(7);
        for (int quarrel = 0; quarrel < 6; quarrel++) {
            DOC.due("insult(" + quarrel + ", 6, 9)", ways.insult(quarrel, 6, 9), quarrel);
        }
        for (int quarrel = 6; quarrel < 11; quarrel++) {
            DOC.due("insult(0, " + (quarrel - 5) + ", 8)", ways.insult(0, quarrel - 5, 8), quarrel);
        }
        DOC.due("insult(4, 5, 7)", ways.insult(4, 5, 7), 11);
        DOC.due("insult(2, 3, 7)", ways.insult(2, 3, 7), TOO_MANY);
        DOC.due("count(2)", ways.count(2), 12);
        for (int quarrel = 0; quarrel < 12; quarrel++) {
            int rank = quarrel < 6 ? 9 : quarrel < 11 ? 8 : 7;
            DOC.due("quarrel(" + quarrel + ", 0)", ways.quarrel(quarrel, 0), quarrel < 6 ? quarrel : quarrel < 11 ? 0 : 4);
            DOC.due("quarrel(" + quarrel + ", 1)", ways.quarrel(quarrel, 1), quarrel < 6 ? 6 : quarrel < 11 ? quarrel - 5 : 5);
            DOC.due("quarrel(" + quarrel + ", 2)", ways.quarrel(quarrel, 2), rank);
        }
        DOC.due("quarrel(12, 0)", ways.quarrel(12, 0), NO_SUCH);
        ways.pass(24);
        DOC.due("the twelfth is fought too", ways.fight(11), 5);
        DOC.due("insult(2, 3, 7)", ways.insult(2, 3, 7), TOO_MANY);
    }

    private static void whatAQuarrelHas() {
        DOC.of(PERSONS, "each with an offender and an offended one, the rank of the insult (1 to 9), and the hour at which it came;");
        Ways ways = Towns.proud(4);
        ways.insult(3, 1, 1);
        ways.pass(10);
        ways.insult(0, 2, 9);
        ways.pass(5);
        int[][] told = {{3, 1, 1, 15}, {0, 2, 9, 5}};
        for (int quarrel = 0; quarrel < 2; quarrel++) {
            for (int what = 0; what < 4; what++) {
                DOC.due("quarrel(" + quarrel + ", " + what + ")", ways.quarrel(quarrel, what), told[quarrel][what]);
            }
        }
        DOC.keeps(Towns::busy, "insult(0, 4, 0)", x -> x.insult(0, 4, 0), BAD_VALUE);
        DOC.keeps(Towns::busy, "insult(0, 4, 10)", x -> x.insult(0, 4, 10), BAD_VALUE);
        DOC.of(PERSONS, "a quarrel is open (0), settled (1), or fought (2).");
        Ways busy = new Ways();
        Towns.busy(busy);
        int[] how = {1, 2, 0, 0};
        for (int quarrel = 0; quarrel < how.length; quarrel++) {
            DOC.due("quarrel(" + quarrel + ", 4)", busy.quarrel(quarrel, 4), how[quarrel]);
        }
        DOC.due("count(3)", busy.count(3), 12);
        DOC.due("count(5)", busy.count(5), 1);
        DOC.due("count(6)", busy.count(6), 1);
    }

    private static void oneOpenQuarrel() {
        DOC.of(PERSONS, "Two persons have at most one open quarrel.");
        DOC.keeps(Towns::busy, "insult(2, 3, 1) of an open quarrel", x -> x.insult(2, 3, 1), NOT_POSSIBLE);
        DOC.keeps(Towns::busy, "insult(3, 2, 1), the other way round", x -> x.insult(3, 2, 1), NOT_POSSIBLE);
        DOC.keeps(x -> x.carryOut("p94;p94;i01/9"), "insult(0, 1, 1) of the first one", x -> x.insult(0, 1, 1), NOT_POSSIBLE);
        DOC.keeps(x -> x.carryOut("p94;p94;i01/9"), "insult(1, 0, 1) of the first one", x -> x.insult(1, 0, 1), NOT_POSSIBLE);
        Ways full = new Ways();
        Towns.full(full);
        for (int quarrel = 1; quarrel < 12; quarrel++) {
            int offender = full.quarrel(quarrel, 0);
            int offended = full.quarrel(quarrel, 1);
            DOC.due("quarrel " + quarrel + " again", full.insult(offender, offended, 1), NOT_POSSIBLE);
            DOC.due("quarrel " + quarrel + ", the other way round", full.insult(offended, offender, 1), NOT_POSSIBLE);
        }
        Ways ways = new Ways();
        Towns.busy(ways);
        DOC.due("of two others", ways.insult(2, 4, 9), 4);
        DOC.due("behind a settled one", ways.insult(0, 1, 9), 5);
        DOC.due("the settled one's other way round", ways.insult(1, 0, 9), NOT_POSSIBLE);
        DOC.due("behind a fought one, the other way round", ways.insult(2, 1, 9), 6);
        DOC.due("behind a fought one", ways.insult(1, 2, 9), NOT_POSSIBLE);
    }

    public static void main(String[] args) {
        firstLine();
        theLastCalls();
        errorCodes();
        orderOfErrors();
        errorsChangeNothing();
        noneIsNoError();
        numbers();
        hours();
        sets();
        cool();
        notice();
        oath();
        peace();
        tenPersons();
        pointsOfPersons();
        underAnOath();
        twelveQuarrels();
        whatAQuarrelHas();
        oneOpenQuarrel();
        DOC.end();
    }
}
