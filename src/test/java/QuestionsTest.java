/** Promises 11 to 22: what there is, and what would be; nothing of it changes anything. */
public final class QuestionsTest {
    private static final int NO_SUCH = -1, BAD_VALUE = -2, NOT_POSSIBLE = -5, NONE = -6;
    private static final int COOL = 0, NOTICE = 1, OATH = 2, PEACE = 3;
    private static final int LEAST = Integer.MIN_VALUE, MOST = Integer.MAX_VALUE;
    private static final String OF = "Promise 11: of", QUARREL = "Promise 12: quarrel", RECORD = "Promise 13: record",
        PRESSING = "Promise 14: pressing", INSULTS = "Promise 15: insults", COUNT = "Promise 16: count", WHY = "Promise 17: why",
        FIRST_WAY = "Promise 18: firstWay", OPENS_IN = "Promise 19: opensIn", DUE_IN = "Promise 20: dueIn",
        IF_INSULTED = "Promise 21: ifInsulted", IF_FOUGHT = "Promise 22: ifFought";
    private static final Sentences DOC = new Sentences(OF, QUARREL, RECORD, PRESSING, INSULTS, COUNT, WHY, FIRST_WAY,
        OPENS_IN, DUE_IN, IF_INSULTED, IF_FOUGHT);

    private interface With {
        int ask(Ways ways, int value);
    }

    private static void refuses(String name, int error, With with, int... values) {
        for (int value : values) {
            DOC.keeps(Towns::busy, name + " with " + value, x -> with.ask(x, value), error);
        }
    }

    private static Ways busy() {
        Ways ways = new Ways();
        Towns.busy(ways);
        return ways;
    }

    private static Ways full() {
        Ways ways = new Ways();
        Towns.full(ways);
        return ways;
    }

    // ---- Promise 11

    private static void persons() {
        DOC.of(OF, "Returns something about a person.");
        int[][] told = {
            {0, 4, 3, 0, 1, 0, 0, 0, 0}, {7, 4, 4, 18, 1, 1, 0, 1, 0}, {9, 5, NONE, 18, 1, 1, 1, 1, 0},
            {9, 8, NONE, 0, 1, 1, 0, 0, 1}, {9, 9, NONE, 0, 0, 1, 0, 0, 2}};
        for (int person = 0; person < told.length; person++) {
            for (int what = 0; what < told[person].length; what++) {
                int number = person;
                int asked = what;
                DOC.keeps(Towns::busy, "of(" + person + ", " + what + ")", x -> x.of(number, asked), told[person][what]);
            }
        }
        DOC.of(OF, "Returns the number;");
        DOC.due("the last person: of(9, 1)", full().of(9, 1), 4);
        DOC.due("the most that can be asked: of(4, 8)", busy().of(4, 8), 2);
        DOC.of(OF, "NO_SUCH if there is no such person;");
        refuses("of(person, 0)", NO_SUCH, (x, person) -> x.of(person, 0), -1, 5, 10, NONE, LEAST, MOST);
        refuses("of(5, what)", NO_SUCH, (x, what) -> x.of(5, what), -1, 2, 8, 9);
        DOC.due("of(0, 0) without persons", new Ways().of(0, 0), NO_SUCH);
        DOC.keeps(Towns::full, "of(10, 0)", x -> x.of(10, 0), NO_SUCH);
        DOC.due("of(9, 0)", full().of(9, 0), 9);
        DOC.of(OF, "BAD_VALUE if what is out of range.");
        refuses("of(0, what)", BAD_VALUE, (x, what) -> x.of(0, what), -1, 9, LEAST, MOST);
        refuses("of(4, what)", BAD_VALUE, (x, what) -> x.of(4, what), -1, 9, LEAST, MOST);
    }

    private static void whatPersonsAre() {
        DOC.of(OF, "0 pride, 1 tact, 2 the second (NONE),");
        Ways ways = new Ways();
        ways.person(0, 9);
        ways.person(9, 0);
        DOC.due("of(0, 0)", ways.of(0, 0), 0);
        DOC.due("of(0, 1)", ways.of(0, 1), 9);
        DOC.due("of(1, 0)", ways.of(1, 0), 9);
        DOC.due("of(1, 1)", ways.of(1, 1), 0);
        DOC.due("of(1, 2)", ways.of(1, 2), NONE);
        ways.second(1, 0);
        DOC.due("of(1, 2)", ways.of(1, 2), 0);
        ways.undo();
        DOC.due("behind undo(): of(1, 2)", ways.of(1, 2), NONE);
        Ways ten = full();
        ten.second(0, 9);
        DOC.due("of(0, 2)", ten.of(0, 2), 9);
        DOC.of(OF, "3 for how many hours an oath holds yet (0: none),");
        DOC.due("of(0, 3)", ways.of(0, 3), 0);
        ways.set(OATH, 200);
        ways.swear(0);
        DOC.due("of(0, 3)", ways.of(0, 3), 200);
        ways.later(199);
        DOC.due("in its last hour: of(0, 3)", ways.of(0, 3), 1);
        ways.pass(1);
        DOC.due("at its end: of(0, 3)", ways.of(0, 3), 0);
        ways.pass(1);
        DOC.due("behind it, none: of(0, 3)", ways.of(0, 3), 0);
        ways.later(300);
        DOC.due("long behind it: of(0, 3)", ways.of(0, 3), 0);
    }

    private static void whatPersonsDid() {
        DOC.of(OF, "4 insults that this person gave so far, 5 that this one got,");
        Ways ways = Towns.proud(3);
        ways.set(NOTICE, 0);
        ways.allow(0);
        ways.allow(3);
        for (int quarrel = 0; quarrel < 11; quarrel++) {
            DOC.due("of(0, 4)", ways.of(0, 4), quarrel);
            DOC.due("of(1, 5)", ways.of(1, 5), Math.min(6, quarrel));
            ways.insult(0, quarrel < 6 ? 1 : 2, 9);
            DOC.due("fight(" + quarrel + ")", ways.fight(quarrel), quarrel < 6 ? 1 : 2);
        }
        ways.insult(0, 2, 9);
        int[][] told = {{12, 0}, {0, 6}, {0, 6}};
        for (int person = 0; person < 3; person++) {
            DOC.due("of(" + person + ", 4)", ways.of(person, 4), told[person][0]);
            DOC.due("of(" + person + ", 5)", ways.of(person, 5), told[person][1]);
        }
        DOC.of(OF, "6 duels that were won, 7 duels that were fought so far,");
        int[][] duels = {{0, 11}, {6, 6}, {5, 5}};
        for (int person = 0; person < 3; person++) {
            DOC.due("of(" + person + ", 6)", ways.of(person, 6), duels[person][0]);
            DOC.due("of(" + person + ", 7)", ways.of(person, 7), duels[person][1]);
        }
        ways.fight(11);
        DOC.due("of(0, 7)", ways.of(0, 7), 12);
        DOC.due("of(2, 7)", ways.of(2, 7), 6);
        DOC.due("of(2, 6)", ways.of(2, 6), 6);
        DOC.due("a settled one is not fought: of(0, 7)", busy().of(0, 7), 0);
        DOC.due("an open one is not fought: of(3, 7)", busy().of(3, 7), 0);
        Ways both = Towns.proud(2);
        both.set(NOTICE, 0);
        both.allow(3);
        both.person(9, 5);
        both.insult(2, 0, 9);
        both.insult(1, 2, 9);
        both.fight(0);
        both.fight(1);
        DOC.due("won as the offender and as the offended one: of(2, 6)", both.of(2, 6), 2);
        DOC.due("of(2, 7)", both.of(2, 7), 2);
    }

    private static void whoseSecond() {
        DOC.of(OF, "8 persons whose second this one is, as a set");
        Ways ways = Towns.proud(10);
        int set = 0;
        for (int person = 0; person < 10; person++) {
            DOC.due("of(4, 8)", ways.of(4, 8), set);
            if (person != 4) {
                ways.second(person, 4);
                set |= 1 << person;
            }
        }
        DOC.due("all others: of(4, 8)", ways.of(4, 8), 1023 - 16);
        ways.second(9, 0);
        ways.second(0, 9);
        DOC.due("without 0 and 9: of(4, 8)", ways.of(4, 8), 512 - 1 - 1 - 16);
        DOC.due("of(0, 8)", ways.of(0, 8), 512);
        DOC.due("of(9, 8)", ways.of(9, 8), 1);
        DOC.due("nobody's: of(1, 8)", ways.of(1, 8), 0);
    }

    // ---- Promise 12

    private static void quarrels() {
        DOC.of(QUARREL, "Returns something about a quarrel.");
        int[][] told = {{0, 1, 8, 78, 1, 0, NONE, 0}, {1, 2, 9, 78, 2, NONE, 2, 0}, {2, 3, 9, 24, 0, NONE, NONE, 8},
            {3, 4, 7, 24, 0, NONE, NONE, 0}};
        for (int quarrel = 0; quarrel < told.length; quarrel++) {
            for (int what = 0; what < told[quarrel].length; what++) {
                int number = quarrel;
                int asked = what;
                DOC.keeps(Towns::busy, "quarrel(" + quarrel + ", " + what + ")", x -> x.quarrel(number, asked), told[quarrel][what]);
            }
        }
        DOC.of(QUARREL, "Returns the number;");
        DOC.due("the last quarrel: quarrel(11, 0)", full().quarrel(11, 0), 1);
        DOC.due("the most that can be asked: quarrel(2, 7)", busy().quarrel(2, 7), 8);
        DOC.of(QUARREL, "NO_SUCH if there is no such quarrel;");
        refuses("quarrel(quarrel, 0)", NO_SUCH, (x, quarrel) -> x.quarrel(quarrel, 0), -1, 4, 12, LEAST, MOST);
        refuses("quarrel(4, what)", NO_SUCH, (x, what) -> x.quarrel(4, what), -1, 5, 6, 7, 8);
        DOC.due("quarrel(0, 0) without quarrels", new Ways().quarrel(0, 0), NO_SUCH);
        DOC.keeps(Towns::full, "quarrel(12, 0)", x -> x.quarrel(12, 0), NO_SUCH);
        DOC.due("quarrel(11, 1)", full().quarrel(11, 1), 4);
        DOC.of(QUARREL, "BAD_VALUE if what is out of range.");
        refuses("quarrel(0, what)", BAD_VALUE, (x, what) -> x.quarrel(0, what), -1, 8, LEAST, MOST);
        refuses("quarrel(3, what)", BAD_VALUE, (x, what) -> x.quarrel(3, what), -1, 8, LEAST, MOST);
    }

    private static void whatQuarrelsAre() {
        DOC.of(QUARREL, "0 the offender, 1 the offended one, 2 the rank, 3 hours since the insult, 4 how it is, 0 to 2,");
        Ways ways = Towns.proud(10);
        ways.pass(50);
        ways.insult(9, 0, 1);
        ways.insult(0, 8, 9);
        for (int hours = 0; hours < 3; hours++) {
            int[][] told = {{9, 0, 1, hours, 0}, {0, 8, 9, hours, 0}};
            for (int quarrel = 0; quarrel < 2; quarrel++) {
                for (int what = 0; what < 5; what++) {
                    DOC.due("quarrel(" + quarrel + ", " + what + ")", ways.quarrel(quarrel, what), told[quarrel][what]);
                }
            }
            ways.pass(1);
        }
        ways.swear(0);
        ways.settle(0, 3);
        ways.later(72);
        ways.fight(1);
        DOC.due("settled: quarrel(0, 4)", ways.quarrel(0, 4), 1);
        DOC.due("fought: quarrel(1, 4)", ways.quarrel(1, 4), 2);
        DOC.due("hours go on when it is settled: quarrel(0, 3)", ways.quarrel(0, 3), 75);
        DOC.due("hours go on when it is fought: quarrel(1, 3)", ways.quarrel(1, 3), 75);
        Ways late = Towns.quarrel();
        late.later(9999);
        DOC.due("at the last hour: quarrel(0, 3)", late.quarrel(0, 3), 9999);
    }

    private static void endsOfQuarrels() {
        DOC.of(QUARREL, "5 the way by which it was settled (NONE), 6 who won (NONE if it was not fought),");
        for (int way = 0; way < 5; way++) {
            Ways ways = new Ways();
            ways.carryOut("p09;p09;p09;p09;s0>2;s1>3;i01/1;w0.0;o0;t12;i10/1;t12");
            DOC.due("open: quarrel(1, 5)", ways.quarrel(1, 5), NONE);
            DOC.due("open: quarrel(1, 6)", ways.quarrel(1, 6), NONE);
            ways.settle(1, way);
            DOC.due("settled: quarrel(1, 5)", ways.quarrel(1, 5), way);
            DOC.due("settled: quarrel(1, 6)", ways.quarrel(1, 6), NONE);
        }
        Ways ways = Towns.quarrel();
        ways.pass(24);
        DOC.due("due: quarrel(0, 6)", ways.quarrel(0, 6), NONE);
        ways.fight(0);
        DOC.due("fought: quarrel(0, 6)", ways.quarrel(0, 6), 1);
        DOC.due("fought: quarrel(0, 5)", ways.quarrel(0, 5), NONE);
        ways.undo();
        DOC.due("behind undo(): quarrel(0, 6)", ways.quarrel(0, 6), NONE);
        Ways first = new Ways();
        first.carryOut("p94;p93;i01/9;t24;f0");
        DOC.due("0 won: quarrel(0, 6)", first.quarrel(0, 6), 0);
    }

    /** Twelve quarrels of other persons each, by turns fought, settled by an oath, and settled when it is cool. */
    private static void twelveEnds() {
        DOC.of(QUARREL, "5 the way by which it was settled (NONE), 6 who won (NONE if it was not fought),");
        int[][] pairs = {{0, 3}, {1, 4}, {2, 5}, {9, 6}, {0, 4}, {1, 5}, {9, 2}, {3, 6}, {4, 7}, {5, 8}, {0, 9}, {1, 9}};
        Ways ways = new Ways();
        for (int person = 0; person < 10; person++) {
            ways.person(9, person);
        }
        ways.set(COOL, 1);
        ways.set(NOTICE, 0);
        ways.set(OATH, 1);
        for (int quarrel = 0; quarrel < 12; quarrel++) {
            ways.insult(pairs[quarrel][0], pairs[quarrel][1], 9);
            if (quarrel % 3 == 0) {
                ways.fight(quarrel);
            } else if (quarrel % 3 == 1) {
                ways.swear(pairs[quarrel][0]);
                ways.settle(quarrel, 3);
            } else {
                ways.pass(9);
                ways.settle(quarrel, 2);
            }
            ways.pass(1);
        }
        int hour = 0;
        for (int quarrel = 0; quarrel < 12; quarrel++) {
            boolean fought = quarrel % 3 == 0;
            int way = quarrel % 3 == 1 ? 3 : 2;
            int winner = Math.max(pairs[quarrel][0], pairs[quarrel][1]);
            int[] told = {pairs[quarrel][0], pairs[quarrel][1], 9, 48 - hour, fought ? 2 : 1, fought ? NONE : way, fought ? winner : NONE, 0};
            for (int what = 0; what < told.length; what++) {
                DOC.due("quarrel(" + quarrel + ", " + what + ")", ways.quarrel(quarrel, what), told[what]);
            }
            hour += quarrel % 3 == 2 ? 10 : 1;
        }
        DOC.due("record(0, 0)", ways.record(0, 0), 1);
        DOC.due("record(0, 1)", ways.record(0, 1), 47);
        DOC.due("record(0, 2)", ways.record(0, 2), 11);
        DOC.due("record(11, 0)", ways.record(11, 0), 0);
        DOC.due("record(11, 1)", ways.record(11, 1), 25);
        DOC.due("record(11, 2)", ways.record(11, 2), 7);
    }

    /** The latest of twelve quarrels is settled first, so that none is changed by those that were before it. */
    private static void twelveEndsInReverse() {
        DOC.of(QUARREL, "5 the way by which it was settled (NONE),");
        int[][] pairs = {{0, 3}, {1, 4}, {2, 5}, {9, 6}, {0, 4}, {1, 5}, {9, 2}, {3, 6}, {4, 7}, {5, 8}, {0, 9}, {1, 9}};
        Ways ways = Towns.proud(10);
        ways.set(COOL, 1);
        ways.set(PEACE, 20);
        for (int[] pair : pairs) {
            ways.insult(pair[0], pair[1], 9);
        }
        for (int person = 0; person < 10; person++) {
            ways.swear(person);
        }
        ways.pass(9);
        for (int quarrel = 11; quarrel >= 0; quarrel--) {
            DOC.due("settle(" + quarrel + ", " + (2 + quarrel % 2) + ")", ways.settle(quarrel, 2 + quarrel % 2), quarrel);
            ways.pass(1);
        }
        for (int quarrel = 0; quarrel < 12; quarrel++) {
            DOC.due("quarrel(" + quarrel + ", 5)", ways.quarrel(quarrel, 5), 2 + quarrel % 2);
            DOC.due("quarrel(" + quarrel + ", 6)", ways.quarrel(quarrel, 6), NONE);
        }
        ways.allow(3);
        ways.pass(7);
        for (int hour = 28; hour <= 42; hour++) {
            for (int quarrel = 0; quarrel < 12; quarrel++) {
                int[] pair = pairs[quarrel];
                int peace = hour - (20 - quarrel) <= 20 ? 16 : 0;
                DOC.due("quarrel " + quarrel + " at " + hour + ": ifInsulted()", ways.ifInsulted(pair[1], pair[0], 9), peace);
            }
            ways.pass(1);
        }
    }

    private static void waysOfQuarrels() {
        DOC.of(QUARREL, "7 ways that are open for it, as a set (empty if it is not open)");
        Ways ways = new Ways();
        ways.carryOut("p09;p09;p09;p09;s0>2;s1>3;i01/1");
        DOC.due("apology and seconds: quarrel(0, 7)", ways.quarrel(0, 7), 3);
        ways.settle(0, 0);
        DOC.due("settled: quarrel(0, 7)", ways.quarrel(0, 7), 0);
        ways.insult(1, 0, 1);
        DOC.due("peace too: quarrel(1, 7)", ways.quarrel(1, 7), 19);
        ways.pass(12);
        DOC.due("cooling too: quarrel(1, 7)", ways.quarrel(1, 7), 23);
        ways.swear(1);
        DOC.due("all: quarrel(1, 7)", ways.quarrel(1, 7), 31);
        ways.allow(0);
        ways.allow(4);
        DOC.due("those that are allowed: quarrel(1, 7)", ways.quarrel(1, 7), 14);
        Ways proud = Towns.quarrel();
        DOC.due("none: quarrel(0, 7)", proud.quarrel(0, 7), 0);
        proud.pass(24);
        proud.fight(0);
        DOC.due("fought: quarrel(0, 7)", proud.quarrel(0, 7), 0);
    }

    // ---- Promise 13

    private static void records() {
        DOC.of(RECORD, "Returns something of the record.");
        int[][] told = {{0, 54, 3}, {0, 54, 2}, {2, 24, 1}, {0, 0, 1}, {1, 0, 0}, {0, 0, 0}, {3, 0, 0}};
        for (int rank = 0; rank < told.length; rank++) {
            for (int what = 0; what < 3; what++) {
                int number = rank;
                int asked = what;
                DOC.keeps(Towns::busy, "record(" + rank + ", " + what + ")", x -> x.record(number, asked), told[rank][what]);
            }
        }
        DOC.of(RECORD, "Returns the number;");
        DOC.due("the oldest event: record(6, 0)", busy().record(6, 0), 3);
        DOC.due("the most that can be asked: record(2, 2)", busy().record(2, 2), 1);
        DOC.of(RECORD, "`rank`: 0 for the latest one");
        Ways ways = busy();
        ways.swear(4);
        DOC.due("record(0, 0)", ways.record(0, 0), 3);
        DOC.due("the one before: record(1, 0)", ways.record(1, 0), 0);
        ways.undo();
        DOC.due("behind undo(): record(0, 0)", ways.record(0, 0), 0);
        DOC.of(RECORD, "0 what it tells, 0 to 3, 1 the hour, 2 the quarrel (of an oath: the person)");
        ways.swear(4);
        DOC.due("an oath: record(0, 2)", ways.record(0, 2), 4);
        ways.pass(5);
        ways.settle(2, 3);
        DOC.due("settled: record(0, 0)", ways.record(0, 0), 1);
        DOC.due("settled: record(0, 1)", ways.record(0, 1), 83);
        DOC.due("settled: record(0, 2)", ways.record(0, 2), 2);
        DOC.due("the hour stays: record(1, 1)", ways.record(1, 1), 78);
        Ways person9 = Towns.proud(10);
        person9.swear(9);
        DOC.due("the last person: record(0, 2)", person9.record(0, 2), 9);
        DOC.due("the last quarrel: record(0, 2)", full().record(0, 2), 11);
    }

    private static void recordsRefused() {
        DOC.of(RECORD, "NO_SUCH if there are not so many;");
        refuses("record(rank, 0)", NO_SUCH, (x, rank) -> x.record(rank, 0), 7, 8, 11, 12, -1, LEAST, MOST);
        refuses("record(7, what)", NO_SUCH, (x, what) -> x.record(7, what), -1, 3);
        DOC.due("of none: record(0, 0)", new Ways().record(0, 0), NO_SUCH);
        DOC.due("of none: record(0, 3)", new Ways().record(0, 3), NO_SUCH);
        DOC.keeps(Towns::full, "of fourteen: record(12, 0)", x -> x.record(12, 0), NO_SUCH);
        DOC.keeps(Towns::full, "of fourteen: record(13, 0)", x -> x.record(13, 0), NO_SUCH);
        DOC.keeps(Towns::full, "of fourteen: record(11, 0)", x -> x.record(11, 0), 1);
        DOC.keeps(Towns::full, "of fourteen: record(11, 2)", x -> x.record(11, 2), 0);
        DOC.of(RECORD, "BAD_VALUE if what is out of range.");
        refuses("record(0, what)", BAD_VALUE, (x, what) -> x.record(0, what), -1, 3, LEAST, MOST);
        refuses("record(6, what)", BAD_VALUE, (x, what) -> x.record(6, what), -1, 3, LEAST, MOST);
    }

    // ---- Promise 14

    private static void pressingOrder(String state, Ways ways, int... order) {
        for (int rank = 0; rank < order.length; rank++) {
            DOC.due(state + ": pressing(" + rank + ")", ways.pressing(rank), order[rank]);
        }
        DOC.due(state + ": pressing(" + order.length + ")", ways.pressing(order.length), NO_SUCH);
    }

    private static void pressing() {
        DOC.of(PRESSING, "Returns an open quarrel by how it presses:");
        pressingOrder("busy", busy(), 2, 3);
        DOC.of(PRESSING, "the hours since the insult and 1, together, times the rank, the most first, of as much the lower one.");
        Ways ways = Towns.proud(5);
        ways.insult(0, 1, 4);
        ways.insult(0, 2, 6);
        ways.insult(1, 2, 4);
        pressingOrder("4, 6 and 4", ways, 1, 0, 2);
        ways.pass(1);
        ways.insult(3, 4, 8);
        pressingOrder("8, 12, 8 and 8", ways, 1, 0, 2, 3);
        ways.pass(2);
        pressingOrder("16, 24, 16 and 24", ways, 1, 3, 0, 2);
        ways.pass(1);
        pressingOrder("20, 30, 20 and 32", ways, 3, 1, 0, 2);
        ways.swear(0);
        ways.settle(1, 3);
        pressingOrder("without a settled one", ways, 3, 0, 2);
        Ways close = Towns.proud(4);
        close.insult(0, 1, 6);
        close.pass(1);
        close.insult(0, 2, 9);
        close.pass(1);
        pressingOrder("18 and 18", close, 0, 1);
        close.insult(0, 3, 9);
        close.insult(1, 2, 8);
        pressingOrder("18, 18, 9 and 8", close, 0, 1, 2, 3);
        close.pass(1);
        pressingOrder("24, 27, 18 and 16", close, 1, 0, 2, 3);
        Ways old = Towns.quarrel();
        old.people(1, 9, 4);
        old.later(9999);
        old.insult(0, 2, 9);
        pressingOrder("90000 and 9", old, 0, 1);
        Ways twelve = Towns.proud(6);
        twelve.carryOut("i01/9;i02/9;i03/9;i04/9;i05/9;i12/9;i13/9;i14/9;i15/9;i23/9;i24/9;i25/9");
        pressingOrder("twelve of 9", twelve, 0, 1, 2, 3, 4, 5, 6, 7, 8, 9, 10, 11);
        Ways ranks = Towns.proud(6);
        ranks.carryOut("i01/1;i02/2;i03/3;i04/4;i05/5;i12/6;i13/7;i14/8;i15/9;i23/9;i24/8;i25/1");
        pressingOrder("1 to 9", ranks, 8, 9, 7, 10, 6, 5, 4, 3, 2, 1, 0, 11);
    }

    private static void pressingRefused() {
        DOC.of(PRESSING, "`rank`: 0 for the first one");
        DOC.keeps(Towns::busy, "pressing(0)", x -> x.pressing(0), 2);
        DOC.of(PRESSING, "Returns the quarrel;");
        DOC.keeps(Towns::busy, "pressing(1)", x -> x.pressing(1), 3);
        DOC.of(PRESSING, "NO_SUCH if there are not so many.");
        refuses("pressing(rank)", NO_SUCH, (x, rank) -> x.pressing(rank), 2, 3, 4, 12, -1, LEAST, MOST);
        DOC.due("without quarrels: pressing(0)", new Ways().pressing(0), NO_SUCH);
        DOC.keeps(Towns::full, "of eleven: pressing(10)", x -> x.pressing(10), 11);
        DOC.keeps(Towns::full, "of eleven: pressing(11)", x -> x.pressing(11), NO_SUCH);
        Ways ways = Towns.quarrel();
        ways.pass(24);
        ways.fight(0);
        DOC.due("of none that is open: pressing(0)", ways.pressing(0), NO_SUCH);
    }

    // ---- Promise 15

    private static void insults() {
        DOC.of(INSULTS, "Returns how many insults so far had some rank, or a higher one.");
        Ways ways = Towns.proud(6);
        ways.carryOut("i01/1;i02/2;i03/3;i04/4;i05/5;i12/6;i13/7;i14/8;i15/9;i23/9;i24/1;i25/5");
        int[] due = {12, 10, 9, 8, 7, 5, 4, 3, 2};
        for (int rank = 1; rank <= 9; rank++) {
            DOC.due("insults(" + rank + ")", ways.insults(rank), due[rank - 1]);
        }
        DOC.of(INSULTS, "`rank`: 1 to 9");
        DOC.keeps(Towns::busy, "insults(1)", x -> x.insults(1), 4);
        DOC.keeps(Towns::busy, "insults(9)", x -> x.insults(9), 2);
        DOC.of(INSULTS, "Returns how many;");
        DOC.due("settled and fought ones too: insults(8)", busy().insults(8), 3);
        DOC.due("without quarrels: insults(1)", new Ways().insults(1), 0);
        DOC.due("without quarrels: insults(9)", new Ways().insults(9), 0);
        Ways one = Towns.proud(2);
        one.insult(0, 1, 5);
        DOC.due("one of 5: insults(5)", one.insults(5), 1);
        DOC.due("one of 5: insults(6)", one.insults(6), 0);
        DOC.of(INSULTS, "BAD_VALUE if rank is out of range.");
        refuses("insults(rank)", BAD_VALUE, (x, rank) -> x.insults(rank), 0, 10, -1, LEAST, MOST);
        DOC.due("without quarrels: insults(0)", new Ways().insults(0), BAD_VALUE);
    }

    // ---- Promise 16

    private static void counts() {
        DOC.of(COUNT, "Returns a number.");
        int[] told = {78, 5, 4, 12, 8, 1, 1, 31, 6, 12, 24, 72, 100, 5, 6};
        for (int what = 0; what < told.length; what++) {
            int asked = what;
            DOC.keeps(Towns::busy, "count(" + what + ")", x -> x.count(asked), told[what]);
        }
        DOC.of(COUNT, "Returns the number;");
        DOC.due("count(0)", busy().count(0), 78);
        DOC.due("the most that can be asked: count(14)", busy().count(14), 6);
        DOC.of(COUNT, "BAD_VALUE if what is out of range.");
        refuses("count(what)", BAD_VALUE, (x, what) -> x.count(what), -1, 15, 16, LEAST, MOST);
        DOC.due("of a new object: count(15)", new Ways().count(15), BAD_VALUE);
    }

    private static void count(Ways ways, int... due) {
        for (int what = 0; what < due.length; what++) {
            DOC.due("count(" + what + ")", ways.count(what), due[what]);
        }
    }

    private static void leastAndMost() {
        DOC.of(COUNT, "0 the hour, 1 persons, 2 quarrels so far, 3 open ones, as a set, 4 those that are due, as a set,");
        count(new Ways(), 0, 0, 0, 0, 0);
        Ways ways = Towns.proud(10);
        ways.later(9975);
        ways.carryOut("i01/9;i02/9;i03/9;i04/9;i05/9;i12/9;i13/9;i14/9;i15/9;i23/9;i24/9;i25/9");
        count(ways, 9975, 10, 12, 4095, 0);
        ways.pass(24);
        count(ways, 9999, 10, 12, 4095, 4095);
        ways.fight(0);
        count(ways, 9999, 10, 12, 4094, 0b111000000000);
        DOC.of(COUNT, "5 settled ones, 6 fought ones, how many,");
        DOC.due("count(5)", ways.count(5), 0);
        DOC.due("count(6)", ways.count(6), 1);
        ways.settle(8, 3);
        DOC.due("count(5)", ways.count(5), 1);
        ways.fight(9);
        DOC.due("count(6)", ways.count(6), 2);
        count(ways, 9999, 10, 12, 0b110011111110, 0);
        Ways all = new Ways().people(2, 0, 0);
        for (int quarrel = 0; quarrel < 12; quarrel++) {
            DOC.due("count(5)", all.count(5), quarrel);
            all.insult(0, 1, 1);
            all.settle(quarrel, 0);
        }
        DOC.due("all: count(5)", all.count(5), 12);
        DOC.due("none: count(3)", all.count(3), 0);
        Ways fought = Towns.proud(2);
        fought.set(NOTICE, 0);
        fought.allow(0);
        fought.allow(3);
        for (int quarrel = 0; quarrel < 12; quarrel++) {
            DOC.due("count(6)", fought.count(6), quarrel);
            fought.insult(1, 0, 9);
            fought.fight(quarrel);
        }
        DOC.due("all: count(6)", fought.count(6), 12);
    }

    private static void setsAndSettings() {
        DOC.of(COUNT, "7 ways that are allowed, as a set, 8 persons under an oath, as a set, 9 to 12 the settings,");
        Ways ways = Towns.proud(10);
        for (int way = 0; way < 5; way++) {
            DOC.due("count(7)", ways.count(7), 31 - (1 << way) + 1);
            ways.allow(way);
        }
        DOC.due("none: count(7)", ways.count(7), 0);
        for (int person = 0; person < 10; person++) {
            DOC.due("count(8)", ways.count(8), (1 << person) - 1);
            ways.swear(person);
        }
        DOC.due("all: count(8)", ways.count(8), 1023);
        int[] set = {1, 99, 200, 0};
        for (int setting = 0; setting < 4; setting++) {
            ways.set(setting, set[setting]);
            DOC.due("count(" + (9 + setting) + ")", ways.count(9 + setting), set[setting]);
        }
        DOC.of(COUNT, "13 the length of the pad, 14 how many changes can be undone");
        Ways pad = new Ways();
        for (int length = 0; length < 80; length++) {
            DOC.due("count(13)", pad.count(13), length);
            pad.put('a');
        }
        DOC.due("a full pad: count(13)", pad.count(13), 80);
        DOC.due("no change: count(14)", pad.count(14), 0);
        for (int change = 0; change < 8; change++) {
            DOC.due("count(14)", pad.count(14), Math.min(6, change));
            pad.pass(1);
        }
        pad.undo();
        DOC.due("count(14)", pad.count(14), 5);
    }

    // ---- Promise 17

    private static void why() {
        DOC.of(WHY, "Tells why a duel is not due for a quarrel.");
        int[] due = {1, 1, 2, 0};
        for (int quarrel = 0; quarrel < due.length; quarrel++) {
            int number = quarrel;
            DOC.keeps(Towns::busy, "why(" + quarrel + ")", x -> x.why(number), due[quarrel]);
        }
        DOC.of(WHY, "Returns the first of these that is so:");
        Ways ways = Towns.quarrel();
        DOC.due("too few hours alone: why(0)", ways.why(0), 3);
        ways.swear(0);
        DOC.due("a way and too few hours: why(0)", ways.why(0), 2);
        ways.pass(24);
        DOC.due("a way alone: why(0)", ways.why(0), 2);
        ways.settle(0, 3);
        DOC.due("not open: why(0)", ways.why(0), 1);
        ways.insult(1, 0, 9);
        ways.settle(1, 4);
        DOC.due("not open, and too few hours: why(1)", ways.why(1), 1);
    }

    private static void reasons() {
        DOC.of(WHY, "1 it is not open;");
        Ways settled = Towns.quarrel();
        settled.swear(0);
        settled.settle(0, 3);
        DOC.due("settled: why(0)", settled.why(0), 1);
        Ways fought = Towns.quarrel();
        fought.pass(24);
        fought.fight(0);
        DOC.due("fought: why(0)", fought.why(0), 1);
        DOC.of(WHY, "2 a way is open;");
        Ways cooled = Towns.quarrel();
        cooled.later(107);
        DOC.due("an hour before it is cool: why(0)", cooled.why(0), 0);
        cooled.pass(1);
        DOC.due("cool: why(0)", cooled.why(0), 2);
        cooled.allow(2);
        DOC.due("a way that is barred is not open: why(0)", cooled.why(0), 0);
        DOC.of(WHY, "3 too few hours have passed;");
        Ways hours = Towns.quarrel();
        DOC.due("at once: why(0)", hours.why(0), 3);
        hours.pass(23);
        DOC.due("23 hours: why(0)", hours.why(0), 3);
        hours.set(NOTICE, 23);
        DOC.due("23 of 23 hours: why(0)", hours.why(0), 0);
        hours.set(NOTICE, 24);
        hours.pass(1);
        DOC.of(WHY, "0: it is due;");
        DOC.due("24 hours: why(0)", hours.why(0), 0);
        Ways now = Towns.quarrel();
        now.set(NOTICE, 0);
        DOC.due("at once: why(0)", now.why(0), 0);
        DOC.of(WHY, "NO_SUCH if there is no such quarrel.");
        refuses("why(quarrel)", NO_SUCH, (x, quarrel) -> x.why(quarrel), -1, 4, 12, LEAST, MOST);
        DOC.due("without quarrels: why(0)", new Ways().why(0), NO_SUCH);
        DOC.keeps(Towns::full, "why(12)", x -> x.why(12), NO_SUCH);
        DOC.keeps(Towns::full, "why(11)", x -> x.why(11), 3);
    }

    // ---- Promise 18

    private static void firstWay() {
        DOC.of(FIRST_WAY, "Returns the first way that is open for a quarrel.");
        Ways ways = new Ways();
        ways.carryOut("p09;p09;p09;p09;s0>2;s1>3;i01/1;w0.0;o0;t12;i10/1;t12");
        for (int way = 0; way < 5; way++) {
            DOC.due("firstWay(1)", ways.firstWay(1), way);
            ways.allow(way);
        }
        DOC.due("none is allowed: firstWay(1)", ways.firstWay(1), NONE);
        DOC.of(FIRST_WAY, "Returns the way;");
        DOC.keeps(Towns::busy, "firstWay(2)", x -> x.firstWay(2), 3);
        DOC.of(FIRST_WAY, "NO_SUCH if there is no such quarrel;");
        refuses("firstWay(quarrel)", NO_SUCH, (x, quarrel) -> x.firstWay(quarrel), -1, 4, 12, LEAST, MOST);
        DOC.due("without quarrels: firstWay(0)", new Ways().firstWay(0), NO_SUCH);
        DOC.keeps(Towns::full, "firstWay(12)", x -> x.firstWay(12), NO_SUCH);
        DOC.of(FIRST_WAY, "NONE if none is open.");
        DOC.keeps(Towns::busy, "settled: firstWay(0)", x -> x.firstWay(0), NONE);
        DOC.keeps(Towns::busy, "fought: firstWay(1)", x -> x.firstWay(1), NONE);
        DOC.keeps(Towns::busy, "due: firstWay(3)", x -> x.firstWay(3), NONE);
        DOC.keeps(x -> x.carryOut("p94;p94;i01/9"), "too few hours: firstWay(0)", x -> x.firstWay(0), NONE);
    }

    // ---- Promise 19

    private static void opening() {
        DOC.of(OPENS_IN, "Tells in how many hours, 0 or more, some way is open for a quarrel, if nothing else is done.");
        Ways ways = Towns.quarrel();
        DOC.due("opensIn(0)", ways.opensIn(0), 108);
        ways.later(107);
        DOC.due("an hour before: opensIn(0)", ways.opensIn(0), 1);
        ways.pass(1);
        DOC.due("open: opensIn(0)", ways.opensIn(0), 0);
        ways.later(300);
        DOC.due("open for long: opensIn(0)", ways.opensIn(0), 0);
        Ways oath = Towns.quarrel();
        oath.swear(1);
        DOC.due("under an oath: opensIn(0)", oath.opensIn(0), 0);
        oath.pass(71);
        DOC.due("in its last hour: opensIn(0)", oath.opensIn(0), 0);
        oath.pass(1);
        DOC.due("at its end: opensIn(0)", oath.opensIn(0), 36);
        oath.pass(30);
        oath.set(COOL, 11);
        DOC.due("less cooling, three hours ago: opensIn(0)", oath.opensIn(0), 0);
        for (int way = 0; way < 5; way++) {
            Ways all = new Ways();
            all.carryOut("p09;p09;p09;p09;s0>2;s1>3;i01/1;w0.0;o0;t12;i10/1;t12");
            for (int other = 0; other < 5; other++) {
                if (other != way) {
                    all.allow(other);
                }
            }
            DOC.due("open by way " + way + ": opensIn(1)", all.opensIn(1), 0);
        }
        DOC.of(OPENS_IN, "Returns how many;");
        DOC.keeps(Towns::busy, "opensIn(2)", x -> x.opensIn(2), 0);
        DOC.keeps(Towns::busy, "opensIn(3)", x -> x.opensIn(3), 60);
    }

    private static void openingFarOff() {
        DOC.of(OPENS_IN, "NO_SUCH if there is no such quarrel;");
        refuses("opensIn(quarrel)", NO_SUCH, (x, quarrel) -> x.opensIn(quarrel), -1, 4, 12, LEAST, MOST);
        DOC.due("without quarrels: opensIn(0)", new Ways().opensIn(0), NO_SUCH);
        DOC.keeps(Towns::full, "opensIn(12)", x -> x.opensIn(12), NO_SUCH);
        DOC.of(OPENS_IN, "NOT_POSSIBLE if it is not open;");
        refuses("opensIn(quarrel), settled and fought", NOT_POSSIBLE, (x, quarrel) -> x.opensIn(quarrel), 0, 1);
        DOC.of(OPENS_IN, "NONE if not within 500.");
        Ways far = Towns.proud(2);
        far.set(COOL, 48);
        far.insult(0, 1, 9);
        DOC.due("the most that there is: opensIn(0)", far.opensIn(0), 432);
        far.allow(2);
        DOC.due("cooling is barred, so never: opensIn(0)", far.opensIn(0), NONE);
        far.allow(2);
        far.later(31);
        DOC.due("opensIn(0)", far.opensIn(0), 401);
        Ways last = Towns.proud(2).later(9999);
        last.set(COOL, 48);
        last.insult(0, 1, 9);
        DOC.due("behind the last hour that pass() reaches: opensIn(0)", last.opensIn(0), 432);
        Ways before = Towns.proud(2).later(9891);
        before.insult(0, 1, 9);
        DOC.due("at that hour: opensIn(0)", before.opensIn(0), 108);
        before.pass(1);
        DOC.due("opensIn(0)", before.opensIn(0), 107);
        DOC.keeps(x -> {
            Towns.busy(x);
            x.allow(2);
        }, "due and never cool: opensIn(3)", x -> x.opensIn(3), NONE);
    }

    // ---- Promise 20

    private static void dueing() {
        DOC.of(DUE_IN, "Tells in how many hours, 0 or more, a duel is due for a quarrel, if nothing else is done.");
        Ways ways = Towns.quarrel();
        DOC.due("dueIn(0)", ways.dueIn(0), 24);
        ways.pass(23);
        DOC.due("an hour before: dueIn(0)", ways.dueIn(0), 1);
        ways.pass(1);
        DOC.due("due: dueIn(0)", ways.dueIn(0), 0);
        ways.pass(83);
        DOC.due("due for the last hour: dueIn(0)", ways.dueIn(0), 0);
        ways.pass(1);
        DOC.due("cool: dueIn(0)", ways.dueIn(0), NONE);
        ways.allow(2);
        DOC.due("cooling is barred: dueIn(0)", ways.dueIn(0), 0);
        ways.set(NOTICE, 99);
        DOC.due("108 of 99 hours: dueIn(0)", ways.dueIn(0), 0);
        Ways now = Towns.quarrel();
        now.set(NOTICE, 0);
        DOC.due("without notice: dueIn(0)", now.dueIn(0), 0);
        now.set(NOTICE, 99);
        DOC.due("with the longest: dueIn(0)", now.dueIn(0), 99);
        now.set(COOL, 11);
        DOC.due("due for an hour, then: dueIn(0)", now.dueIn(0), NONE);
        now.set(NOTICE, 98);
        DOC.due("due for an hour: dueIn(0)", now.dueIn(0), 98);
        now.later(98);
        DOC.due("now: why(0)", now.why(0), 0);
        now.pass(1);
        DOC.due("and no more: why(0)", now.why(0), 2);
        DOC.of(DUE_IN, "Returns how many;");
        DOC.keeps(Towns::busy, "dueIn(2)", x -> x.dueIn(2), 18);
        DOC.keeps(Towns::busy, "dueIn(3)", x -> x.dueIn(3), 0);
    }

    private static void dueBehindOaths() {
        DOC.of(DUE_IN, "Tells in how many hours, 0 or more, a duel is due for a quarrel, if nothing else is done.");
        Ways ways = Towns.quarrel();
        ways.set(OATH, 24);
        ways.swear(0);
        DOC.due("an oath as long as the notice: dueIn(0)", ways.dueIn(0), 24);
        ways.set(OATH, 25);
        ways.swear(1);
        DOC.due("one an hour longer: dueIn(0)", ways.dueIn(0), 25);
        ways.allow(3);
        DOC.due("oaths are barred: dueIn(0)", ways.dueIn(0), 24);
        ways.allow(3);
        ways.pass(24);
        DOC.due("an hour yet: dueIn(0)", ways.dueIn(0), 1);
        ways.pass(1);
        DOC.due("at its end: dueIn(0)", ways.dueIn(0), 0);
        Ways offender = Towns.quarrel();
        offender.set(OATH, 107);
        offender.swear(0);
        DOC.due("until the last hour before it is cool: dueIn(0)", offender.dueIn(0), 107);
        offender.pass(99);
        DOC.due("dueIn(0)", offender.dueIn(0), 8);
        Ways cool = Towns.quarrel();
        cool.set(OATH, 108);
        cool.swear(1);
        DOC.due("until it is cool: dueIn(0)", cool.dueIn(0), NONE);
        cool.allow(2);
        DOC.due("cooling is barred: dueIn(0)", cool.dueIn(0), 108);
        cool.set(OATH, 200);
        cool.swear(0);
        DOC.due("the longest oath: dueIn(0)", cool.dueIn(0), 200);
    }

    private static void dueBehindPeace() {
        DOC.of(DUE_IN, "Tells in how many hours, 0 or more, a duel is due for a quarrel, if nothing else is done.");
        Ways ways = Towns.quarrel();
        ways.swear(0);
        ways.settle(0, 3);
        ways.allow(3);
        ways.insult(1, 0, 9);
        ways.set(PEACE, 23);
        DOC.due("peace ends with the notice: dueIn(1)", ways.dueIn(1), 24);
        ways.set(PEACE, 24);
        DOC.due("it holds an hour longer: dueIn(1)", ways.dueIn(1), 25);
        ways.set(PEACE, 106);
        DOC.due("until the last hour before it is cool: dueIn(1)", ways.dueIn(1), 107);
        ways.set(PEACE, 107);
        DOC.due("until it is cool: dueIn(1)", ways.dueIn(1), NONE);
        ways.set(NOTICE, 0);
        ways.set(PEACE, 0);
        DOC.due("for this hour: dueIn(1)", ways.dueIn(1), 1);
        ways.allow(4);
        DOC.due("peace is barred: dueIn(1)", ways.dueIn(1), 0);
        ways.allow(4);
        ways.allow(3);
        DOC.due("an oath of 72 hours: dueIn(1)", ways.dueIn(1), 72);
        ways.set(PEACE, 72);
        DOC.due("peace for an hour more: dueIn(1)", ways.dueIn(1), 73);
        ways.pass(72);
        DOC.due("dueIn(1)", ways.dueIn(1), 1);
        ways.pass(1);
        DOC.due("dueIn(1)", ways.dueIn(1), 0);
    }

    private static void dueFarOff() {
        DOC.of(DUE_IN, "NO_SUCH if there is no such quarrel;");
        refuses("dueIn(quarrel)", NO_SUCH, (x, quarrel) -> x.dueIn(quarrel), -1, 4, 12, LEAST, MOST);
        DOC.due("without quarrels: dueIn(0)", new Ways().dueIn(0), NO_SUCH);
        DOC.keeps(Towns::full, "dueIn(12)", x -> x.dueIn(12), NO_SUCH);
        DOC.of(DUE_IN, "NOT_POSSIBLE if it is not open;");
        refuses("dueIn(quarrel), settled and fought", NOT_POSSIBLE, (x, quarrel) -> x.dueIn(quarrel), 0, 1);
        DOC.of(DUE_IN, "NONE if not within 500.");
        Ways far = Towns.quarrel();
        far.swear(0);
        far.settle(0, 3);
        far.allow(2);
        far.set(PEACE, 400);
        far.insult(1, 0, 9);
        DOC.due("the most that there is: dueIn(1)", far.dueIn(1), 401);
        far.allow(2);
        DOC.due("it is cool before: dueIn(1)", far.dueIn(1), NONE);
        far.set(COOL, 48);
        DOC.due("it is cool later: dueIn(1)", far.dueIn(1), 401);
        Ways last = Towns.proud(2).later(9999);
        last.set(OATH, 200);
        last.insult(0, 1, 9);
        DOC.due("behind the last hour that pass() reaches: dueIn(0)", last.dueIn(0), 24);
        last.swear(1);
        last.allow(2);
        DOC.due("behind the last hour that pass() reaches: dueIn(0)", last.dueIn(0), 200);
        last.settle(0, 3);
        last.set(PEACE, 400);
        last.insult(0, 1, 9);
        DOC.due("behind the last hour that pass() reaches: dueIn(1)", last.dueIn(1), 401);
        Ways apology = new Ways().people(2, 4, 4);
        apology.insult(0, 1, 5);
        DOC.due("an apology is open for ever: dueIn(0)", apology.dueIn(0), NONE);
        apology.allow(0);
        DOC.due("apologies are barred: dueIn(0)", apology.dueIn(0), 24);
        Ways seconds = Towns.proud(4);
        seconds.second(0, 2);
        seconds.second(1, 3);
        seconds.insult(0, 1, 4);
        DOC.due("the seconds are for ever: dueIn(0)", seconds.dueIn(0), NONE);
        seconds.allow(1);
        DOC.due("seconds are barred: dueIn(0)", seconds.dueIn(0), 24);
    }

    // ---- Promise 21

    private static void hypotheticalInsult() {
        DOC.of(IF_INSULTED, "Returns the ways that would be open at once behind an insult (whether both have a quarrel or not).");
        DOC.keeps(Towns::busy, "none: ifInsulted(3, 4, 9)", x -> x.ifInsulted(3, 4, 9), 0);
        DOC.keeps(Towns::busy, "of an open quarrel: ifInsulted(2, 3, 9)", x -> x.ifInsulted(2, 3, 9), 8);
        DOC.keeps(Towns::busy, "behind a settled one: ifInsulted(0, 1, 9)", x -> x.ifInsulted(0, 1, 9), 8 | 16 | 1);
        DOC.keeps(Towns::busy, "without a quarrel: ifInsulted(4, 0, 9)", x -> x.ifInsulted(4, 0, 9), 0);
        DOC.keeps(Towns::full, "behind twelve quarrels: ifInsulted(1, 0, 9)", x -> x.ifInsulted(1, 0, 9), 8 | 16);
        DOC.keeps(Towns::full, "behind twelve quarrels: ifInsulted(8, 9, 9)", x -> x.ifInsulted(8, 9, 9), 0);
        Ways ways = Towns.proud(4);
        ways.set(COOL, 1);
        ways.insult(0, 1, 1);
        ways.later(99);
        DOC.due("the old one is cool, a new one would not be: ifInsulted(0, 1, 1)", ways.ifInsulted(0, 1, 1), 0);
        ways.second(0, 2);
        ways.second(1, 3);
        DOC.due("seconds: ifInsulted(0, 1, 4)", ways.ifInsulted(0, 1, 4), 2);
        DOC.due("seconds: ifInsulted(0, 1, 5)", ways.ifInsulted(0, 1, 5), 0);
        ways.settle(0, 2);
        DOC.due("peace: ifInsulted(1, 0, 9)", ways.ifInsulted(1, 0, 9), 16);
        ways.allow(4);
        DOC.due("peace is barred: ifInsulted(1, 0, 9)", ways.ifInsulted(1, 0, 9), 0);
        ways.swear(0);
        DOC.due("the offender's oath: ifInsulted(0, 3, 9)", ways.ifInsulted(0, 3, 9), 8);
        DOC.due("the offended one's oath: ifInsulted(3, 0, 9)", ways.ifInsulted(3, 0, 9), 8);
        DOC.of(IF_INSULTED, "Returns the ways, as a set;");
        Ways all = new Ways();
        all.carryOut("p09;p99;p09;p09;s0>2;s1>3;i01/1;w0.0;o1");
        DOC.due("all but cooling: ifInsulted(0, 1, 9)", all.ifInsulted(0, 1, 9), 27);
        DOC.due("no apology: ifInsulted(1, 0, 9)", all.ifInsulted(1, 0, 9), 26);
    }

    private static void hypotheticalInsultRefused() {
        DOC.of(IF_INSULTED, "NO_SUCH if there is no such person;");
        refuses("ifInsulted(offender, 0, 5)", NO_SUCH, (x, offender) -> x.ifInsulted(offender, 0, 5), -1, 5, 10, LEAST, MOST);
        refuses("ifInsulted(0, offended, 5)", NO_SUCH, (x, offended) -> x.ifInsulted(0, offended, 5), -1, 5, 10, LEAST, MOST);
        refuses("ifInsulted(both, both, 5)", NO_SUCH, (x, both) -> x.ifInsulted(both, both, 5), -1, 5, LEAST, MOST);
        refuses("ifInsulted(0, 5, rank)", NO_SUCH, (x, rank) -> x.ifInsulted(0, 5, rank), 0, 10);
        DOC.due("without persons: ifInsulted(0, 1, 5)", new Ways().ifInsulted(0, 1, 5), NO_SUCH);
        DOC.of(IF_INSULTED, "BAD_VALUE if both are the same, or rank is out of range.");
        refuses("ifInsulted(both, both, 5)", BAD_VALUE, (x, both) -> x.ifInsulted(both, both, 5), 0, 1, 2, 3, 4);
        refuses("ifInsulted(0, 4, rank)", BAD_VALUE, (x, rank) -> x.ifInsulted(0, 4, rank), 0, 10, -1, LEAST, MOST);
        refuses("ifInsulted(2, 3, rank) of an open quarrel", BAD_VALUE, (x, rank) -> x.ifInsulted(2, 3, rank), 0, 10);
        DOC.keeps(Towns::busy, "ifInsulted(0, 4, 1)", x -> x.ifInsulted(0, 4, 1), 1);
        DOC.keeps(Towns::busy, "ifInsulted(0, 4, 9)", x -> x.ifInsulted(0, 4, 9), 1);
    }

    // ---- Promise 22

    private static void hypotheticalDuel() {
        DOC.of(IF_FOUGHT, "Tells who would win a duel for a quarrel now, whether it is due or not.");
        Ways ways = new Ways();
        ways.carryOut("p92;p35;p25;i01/9;i12/9;i20/9");
        DOC.due("13 and 13, the offended one: ifFought(0)", ways.ifFought(0), 1);
        DOC.due("13 and 12, the offender: ifFought(1)", ways.ifFought(1), 1);
        DOC.due("12 and 13, the offended one: ifFought(2)", ways.ifFought(2), 0);
        ways.swear(0);
        DOC.due("a way is open: ifFought(0)", ways.ifFought(0), 1);
        ways.settle(0, 3);
        DOC.due("it is settled: ifFought(0)", ways.ifFought(0), 1);
        ways.pass(99);
        ways.insult(1, 0, 9);
        DOC.due("13 and 13, the other way round: ifFought(3)", ways.ifFought(3), 0);
        ways.fight(1);
        DOC.due("it is fought, 14 and 10: ifFought(1)", ways.ifFought(1), 1);
        DOC.due("now, 14 and 13: ifFought(3)", ways.ifFought(3), 1);
        DOC.due("nothing else is fought: count(6)", ways.count(6), 1);
        DOC.of(IF_FOUGHT, "Returns who;");
        int[] due = {1, 2, 3, 4};
        for (int quarrel = 0; quarrel < due.length; quarrel++) {
            int number = quarrel;
            DOC.keeps(Towns::busy, "ifFought(" + quarrel + ")", x -> x.ifFought(number), due[quarrel]);
        }
        DOC.of(IF_FOUGHT, "NO_SUCH if there is no such quarrel.");
        refuses("ifFought(quarrel)", NO_SUCH, (x, quarrel) -> x.ifFought(quarrel), -1, 4, 12, LEAST, MOST);
        DOC.due("without quarrels: ifFought(0)", new Ways().ifFought(0), NO_SUCH);
        DOC.keeps(Towns::full, "ifFought(12)", x -> x.ifFought(12), NO_SUCH);
        DOC.keeps(Towns::full, "ifFought(11)", x -> x.ifFought(11), 4);
    }

    /** All what-if questions about each quarrel and each two persons of the busy town. */
    private static void nothingChanges() {
        DOC.of("Texts", "---- what if; nothing changes.");
        DOC.keeps(Towns::busy, "all what-if questions", x -> {
            for (int quarrel = -1; quarrel < 5; quarrel++) {
                x.why(quarrel);
                x.firstWay(quarrel);
                x.opensIn(quarrel);
                x.dueIn(quarrel);
                x.ifFought(quarrel);
                for (int offended = -1; offended < 6; offended++) {
                    x.ifInsulted(quarrel, offended, 9);
                }
            }
            return 0;
        }, 0);
    }

    public static void main(String[] args) {
        persons();
        whatPersonsAre();
        whatPersonsDid();
        whoseSecond();
        quarrels();
        whatQuarrelsAre();
        endsOfQuarrels();
        twelveEnds();
        twelveEndsInReverse();
        waysOfQuarrels();
        records();
        recordsRefused();
        pressing();
        pressingRefused();
        insults();
        counts();
        leastAndMost();
        setsAndSettings();
        why();
        reasons();
        firstWay();
        opening();
        openingFarOff();
        dueing();
        dueBehindOaths();
        dueBehindPeace();
        dueFarOff();
        hypotheticalInsult();
        hypotheticalInsultRefused();
        hypotheticalDuel();
        nothingChanges();
        DOC.end();
    }
}
