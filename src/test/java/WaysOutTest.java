/** The ways out, settling, fighting, and the record. */
public final class WaysOutTest {
    private static final int NO_SUCH = -1, NOT_POSSIBLE = -5, NONE = -6;
    private static final int COOL = 0, NOTICE = 1, OATH = 2, PEACE = 3;
    private static final int APOLOGY = 1, SECONDS = 2, COOLING = 4, SWORN = 8, OLD_PEACE = 16;
    private static final Sentences DOC = new Sentences("Ways out", "The record");

    private static void of(String words) {
        DOC.of("Ways out", words);
    }

    private static void ways(String state, Ways ways, int quarrel, int due) {
        DOC.due(state + ": quarrel(" + quarrel + ", 7)", ways.quarrel(quarrel, 7), due);
    }

    /** Quarrel 1 of 1 against 0, with seconds 3 and 2, behind a settled one, 12 hours old; 0 is under an oath. */
    private static void allWays(Ways ways) {
        ways.people(4, 1, 8);
        ways.second(0, 2);
        ways.second(1, 3);
        ways.insult(0, 1, 1);
        ways.settle(0, 0);
        ways.swear(0);
        ways.insult(1, 0, 1);
        ways.pass(12);
    }

    private static void theCode() {
        of("The code allows some of the ways 0 to 4 (all at first).");
        Ways ways = new Ways();
        DOC.due("count(7)", ways.count(7), 31);
        int allowed = 31;
        for (int way = 0; way < 5; way++) {
            allowed -= 1 << way;
            DOC.due("allow(" + way + ")", ways.allow(way), allowed);
        }
        DOC.keeps(WaysOutTest::allWays, "allow(-1)", x -> x.allow(-1), NO_SUCH);
        DOC.keeps(WaysOutTest::allWays, "allow(5)", x -> x.allow(5), NO_SUCH);
    }

    private static void openOrNot() {
        of("A way is open for an open quarrel if it is allowed, and:");
        for (int way = 0; way < 5; way++) {
            int barred = way;
            Ways ways = new Ways();
            allWays(ways);
            ways("all five", ways, 1, 31);
            ways.allow(way);
            ways("without " + way, ways, 1, 31 - (1 << way));
            DOC.keeps(x -> {
                allWays(x);
                x.allow(barred);
            }, "settle by a way that is barred", x -> x.settle(1, barred), NOT_POSSIBLE);
            ways.allow(way);
            DOC.due("settle by way " + way, ways.settle(1, way), 0);
            ways("settled", ways, 1, 0);
        }
        Ways fought = Towns.quarrel();
        fought.pass(24);
        fought.fight(0);
        DOC.due("both are under an oath, but it was fought: settle(0, 3)", fought.settle(0, 3), NOT_POSSIBLE);
        ways("fought", fought, 0, 0);
    }

    private static void apology() {
        of("0 apology: the pride of the offender and the rank, together, are 9 or less;");
        for (int pride = 0; pride <= 9; pride++) {
            Ways ways = new Ways();
            ways.person(pride, 0);
            ways.person(9 - pride, 0);
            for (int rank = 1; rank <= 9; rank++) {
                int due = pride + rank <= 9 ? APOLOGY : 0;
                DOC.due("pride " + pride + ": ifInsulted(0, 1, " + rank + ")", ways.ifInsulted(0, 1, rank), due);
            }
        }
        Ways nine = new Ways();
        nine.person(4, 0);
        nine.person(9, 0);
        nine.insult(0, 1, 5);
        ways("4 and 5", nine, 0, APOLOGY);
        Ways ten = new Ways();
        ten.person(4, 0);
        ten.person(0, 0);
        ten.insult(0, 1, 6);
        ways("4 and 6", ten, 0, 0);
    }

    /** Persons 0 and 1 with a quarrel of a rank, 2 and 3 of some tact. */
    private static Ways withSeconds(int rank, int one, int other) {
        Ways ways = Towns.proud(2);
        ways.person(9, one);
        ways.person(9, other);
        ways.insult(0, 1, rank);
        return ways;
    }

    private static void bothHaveASecond() {
        of("1 seconds: both have a second,");
        Ways offended = withSeconds(1, 9, 9);
        offended.second(1, 3);
        ways("the offended one's alone", offended, 0, 0);
        Ways offender = withSeconds(1, 9, 9);
        ways("none", offender, 0, 0);
        offender.second(0, 2);
        ways("the offender's alone", offender, 0, 0);
        offender.second(1, 3);
        ways("both", offender, 0, SECONDS);
    }

    private static void neitherOfBoth() {
        of("who is neither of both,");
        Ways ways = withSeconds(1, 9, 9);
        ways.second(0, 2);
        ways.second(1, 0);
        ways("the offender for the offended one", ways, 0, 0);
        ways.second(0, 1);
        ways("each for the other", ways, 0, 0);
        ways.second(1, 3);
        ways("the offended one for the offender", ways, 0, 0);
        ways.second(0, 2);
        ways.second(2, 0);
        ways.second(3, 1);
        ways("two others, whoever stands by these", ways, 0, SECONDS);
    }

    private static void unlikeSeconds() {
        of("the two seconds are unlike,");
        Ways ways = withSeconds(1, 9, 9);
        ways.second(0, 3);
        ways.second(1, 3);
        ways("3 for both", ways, 0, 0);
        ways.second(1, 2);
        ways("3 and 2", ways, 0, SECONDS);
        ways.second(0, 2);
        ways("2 for both", ways, 0, 0);
    }

    private static void tactOfSeconds() {
        of("and their tact, together, is twice the rank or more;");
        int[][] tacts = {{9, 9, 9}, {9, 8, 8}, {8, 9, 8}, {0, 2, 1}, {2, 0, 1}, {0, 9, 4}, {9, 0, 4}, {5, 5, 5}, {1, 0, 0}, {0, 0, 0}};
        for (int[] one : tacts) {
            for (int rank = 1; rank <= 9; rank++) {
                Ways ways = withSeconds(rank, one[0], one[1]);
                ways.second(0, 2);
                ways.second(1, 3);
                ways("tact " + one[0] + " and " + one[1] + ", rank " + rank, ways, 0, rank <= one[2] ? SECONDS : 0);
            }
        }
    }

    private static void cooling() {
        of("2 cooling: COOL times the rank hours have passed since the insult, or more;");
        Ways ways = Towns.proud(2);
        ways.set(COOL, 10);
        ways.pass(7);
        ways.insult(0, 1, 3);
        ways("at once", ways, 0, 0);
        ways.pass(29);
        ways("29 of 30 hours", ways, 0, 0);
        DOC.due("settle(0, 2)", ways.settle(0, 2), NOT_POSSIBLE);
        ways.pass(1);
        ways("30 hours", ways, 0, COOLING);
        ways.pass(99);
        ways("129 hours", ways, 0, COOLING);
        DOC.due("settle(0, 2)", ways.settle(0, 2), 0);
    }

    private static void oath() {
        of("3 oath: one of both, or both, are under an oath;");
        Ways ways = Towns.proud(3);
        ways.insult(0, 1, 9);
        ways.swear(2);
        ways("a third one", ways, 0, 0);
        ways.set(OATH, 3);
        ways.swear(0);
        ways("the offender", ways, 0, SWORN);
        ways.pass(1);
        ways.swear(1);
        ways("both", ways, 0, SWORN);
        ways.pass(2);
        ways("the offended one", ways, 0, SWORN);
        ways.pass(1);
        ways("none any more", ways, 0, 0);
    }

    /** Persons 0 and 1 have settled a quarrel at hour 8, and peace holds for 5 hours. */
    private static Ways settled() {
        Ways ways = new Ways().people(4, 9, 4);
        ways.set(PEACE, 5);
        ways.set(OATH, 8);
        ways.insult(0, 1, 9);
        ways.pass(6);
        ways.swear(0);
        ways.pass(2);
        ways.settle(0, 3);
        ways.allow(3);
        return ways;
    }

    private static void peace() {
        of("4 peace: there is another quarrel of these two that was settled,");
        Ways ways = settled();
        ways.insult(0, 1, 9);
        ways("behind one that was settled", ways, 1, OLD_PEACE);
        ways.insult(0, 2, 9);
        ways.insult(3, 1, 9);
        ways.insult(2, 3, 9);
        ways("with a third", ways, 2, 0);
        ways("of a third", ways, 3, 0);
        ways("of two others", ways, 4, 0);
        Ways fought = Towns.quarrel();
        fought.pass(24);
        fought.fight(0);
        fought.allow(3);
        fought.insult(0, 1, 9);
        ways("behind one that was fought", fought, 1, 0);
        of("whoever was the offender,");
        Ways turned = settled();
        turned.insult(1, 0, 9);
        ways("the other way round", turned, 1, OLD_PEACE);
        DOC.due("ifInsulted(0, 1, 9)", turned.ifInsulted(0, 1, 9), OLD_PEACE);
    }

    private static void endOfPeace() {
        of("at most PEACE hours ago.");
        Ways ways = settled();
        ways.insult(1, 0, 9);
        ways("in its hour", ways, 1, OLD_PEACE);
        ways.pass(5);
        ways("5 hours ago", ways, 1, OLD_PEACE);
        ways.pass(1);
        ways("6 hours ago", ways, 1, 0);
        ways.set(PEACE, 6);
        ways("PEACE is 6", ways, 1, OLD_PEACE);
        ways.set(PEACE, 0);
        ways("PEACE is 0", ways, 1, 0);
        ways.set(PEACE, 6);
        DOC.due("settle(1, 4)", ways.settle(1, 4), 0);
        ways.pass(6);
        ways.insult(0, 1, 9);
        ways("the later one of two", ways, 2, OLD_PEACE);
        ways.pass(1);
        ways("too long ago, both", ways, 2, 0);
        Ways twelve = new Ways().people(2, 0, 0);
        twelve.set(PEACE, 5);
        for (int quarrel = 0; quarrel < 12; quarrel++) {
            twelve.insult(0, 1, 9);
            twelve.settle(quarrel, 0);
            twelve.allow(0);
            twelve.pass(5);
            DOC.due("by quarrel " + quarrel + ": ifInsulted(1, 0, 9)", twelve.ifInsulted(1, 0, 9), OLD_PEACE);
            twelve.pass(1);
            DOC.due("an hour more: ifInsulted(1, 0, 9)", twelve.ifInsulted(1, 0, 9), 0);
            twelve.allow(0);
        }
        Ways now = settled();
        now.set(PEACE, 0);
        now.insult(0, 1, 9);
        ways("PEACE is 0, in its hour", now, 1, OLD_PEACE);
        now.pass(1);
        ways("PEACE is 0, an hour ago", now, 1, 0);
    }

    private static void dueDuels() {
        of("A duel is due for an open quarrel if no way is open, and NOTICE hours have passed since the insult, or more.");
        Ways ways = Towns.proud(2);
        ways.pass(11);
        ways.insult(0, 1, 9);
        ways.pass(23);
        DOC.due("23 hours: count(4)", ways.count(4), 0);
        ways.pass(1);
        DOC.due("24 hours: count(4)", ways.count(4), 1);
        ways.pass(83);
        DOC.due("107 hours: count(4)", ways.count(4), 1);
        ways.pass(1);
        DOC.due("cooling is open: count(4)", ways.count(4), 0);
        ways.allow(2);
        DOC.due("cooling is barred: count(4)", ways.count(4), 1);
        ways.fight(0);
        DOC.due("it is not open: count(4)", ways.count(4), 0);
        for (int way = 0; way < 5; way++) {
            Ways one = new Ways();
            allWays(one);
            one.set(NOTICE, 0);
            for (int other = 0; other < 5; other++) {
                DOC.due("a way is open: why(1)", one.why(1), 2);
                if (other != way) {
                    one.allow(other);
                }
            }
            DOC.due("way " + way + " alone is open: count(4)", one.count(4), 0);
            one.allow(way);
            DOC.due("no way is open: count(4)", one.count(4), 2);
        }
    }

    // ---- Settling

    private static void settledAtThisHour() {
        of("To settle a quarrel by a way that is open: it is settled at this hour;");
        Ways ways = settled();
        DOC.due("record(0, 0)", ways.record(0, 0), 1);
        DOC.due("record(0, 1)", ways.record(0, 1), 8);
        DOC.due("quarrel(0, 4)", ways.quarrel(0, 4), 1);
        ways.pass(5);
        DOC.due("peace from that hour on, not from the insult's: ifInsulted(0, 1, 9)", ways.ifInsulted(0, 1, 9), OLD_PEACE);
        ways.pass(1);
        DOC.due("ifInsulted(0, 1, 9)", ways.ifInsulted(0, 1, 9), 0);
        for (int way : new int[] {0, 1, 2, 3}) {
            DOC.keeps(x -> {
                x.people(2, 9, 9);
                x.insult(0, 1, 9);
            }, "settle(0, " + way + ") by one that is not open", x -> x.settle(0, way), NOT_POSSIBLE);
        }
    }

    private static void prideOfApology() {
        of("by an apology the pride of the offender becomes 1 less (0 at least);");
        int[][] prides = {{0, 0}, {1, 0}, {2, 1}, {8, 7}};
        for (int[] pride : prides) {
            Ways ways = new Ways();
            ways.person(pride[0], 5);
            ways.person(6, 5);
            ways.insult(0, 1, 1);
            ways.settle(0, 0);
            DOC.due("the offender's pride of " + pride[0] + ": of(0, 0)", ways.of(0, 0), pride[1]);
            DOC.due("the offended one's: of(1, 0)", ways.of(1, 0), 6);
            DOC.due("of(0, 1)", ways.of(0, 1), 5);
            DOC.due("of(1, 1)", ways.of(1, 1), 5);
        }
    }

    private static void tactOfWords() {
        of("by the seconds the tact of each of these 1 more (9 at most);");
        int[][] tacts = {{9, 9, 9, 9}, {9, 8, 9, 9}, {8, 9, 9, 9}, {7, 8, 8, 9}, {0, 2, 1, 3}};
        for (int[] tact : tacts) {
            Ways ways = withSeconds(1, tact[0], tact[1]);
            ways.second(0, 2);
            ways.second(1, 3);
            ways.settle(0, 1);
            DOC.due("tact " + tact[0] + ": of(2, 1)", ways.of(2, 1), tact[2]);
            DOC.due("tact " + tact[1] + ": of(3, 1)", ways.of(3, 1), tact[3]);
            for (int person = 0; person < 4; person++) {
                DOC.due("of(" + person + ", 0)", ways.of(person, 0), 9);
            }
            DOC.due("of(0, 1)", ways.of(0, 1), 4);
            DOC.due("of(1, 1)", ways.of(1, 1), 4);
        }
    }

    private static void nothingElse() {
        of("otherwise nothing else.");
        for (int way = 2; way < 5; way++) {
            Ways ways = new Ways();
            allWays(ways);
            ways.settle(1, way);
            int[] prides = {0, 1, 1, 1};
            int[] oaths = {60, 0, 0, 0};
            for (int person = 0; person < 4; person++) {
                DOC.due("by way " + way + ": of(" + person + ", 0)", ways.of(person, 0), prides[person]);
                DOC.due("by way " + way + ": of(" + person + ", 1)", ways.of(person, 1), 8);
                DOC.due("by way " + way + ": of(" + person + ", 3)", ways.of(person, 3), oaths[person]);
            }
            DOC.due("quarrel(1, 6)", ways.quarrel(1, 6), NONE);
            DOC.due("count(0)", ways.count(0), 12);
            DOC.due("count(7)", ways.count(7), 31);
            DOC.due("one event alone: record(1, 0)", ways.record(1, 0), 0);
        }
        Ways apology = new Ways();
        allWays(apology);
        apology.settle(1, 0);
        DOC.due("by an apology, the seconds: of(2, 1)", apology.of(2, 1), 8);
        DOC.due("by an apology, the seconds: of(3, 1)", apology.of(3, 1), 8);
        Ways seconds = new Ways();
        allWays(seconds);
        seconds.settle(1, 1);
        DOC.due("by the seconds, the offender: of(1, 0)", seconds.of(1, 0), 1);
    }

    // ---- Fighting

    /** Two persons of some pride and tact, and a duel of 0 against 1 that is due. */
    private static Ways duel(int pride, int tact, int otherPride, int otherTact) {
        Ways ways = new Ways();
        ways.person(pride, tact);
        ways.person(otherPride, otherTact);
        ways.set(NOTICE, 0);
        ways.allow(0);
        ways.insult(0, 1, 9);
        return ways;
    }

    private static void skill() {
        of("To fight a duel that is due: the skill of a person is twice the tact, and the pride once, together;");
        DOC.due("17 and 18: fight(0)", duel(9, 4, 0, 9).fight(0), 1);
        DOC.due("19 and 18: fight(0)", duel(9, 5, 0, 9).fight(0), 0);
        DOC.due("3 and 4: fight(0)", duel(3, 0, 0, 2).fight(0), 1);
        DOC.due("5 and 4: fight(0)", duel(5, 0, 0, 2).fight(0), 0);
        DOC.due("tact counts more: fight(0)", duel(3, 4, 4, 3).fight(0), 0);
        of("the one with more skill wins, of two with as much the offended one.");
        for (int pride = 0; pride < 9; pride++) {
            DOC.due("one more, the offender: fight(0)", duel(pride + 1, 4, pride, 4).fight(0), 0);
            DOC.due("as much: fight(0)", duel(pride, 4, pride, 4).fight(0), 1);
            DOC.due("one more, the offended one: fight(0)", duel(pride, 4, pride + 1, 4).fight(0), 1);
        }
        DOC.due("as much in another way: fight(0)", duel(2, 4, 8, 1).fight(0), 1);
        Ways turned = Towns.proud(2);
        turned.insult(1, 0, 9);
        turned.pass(24);
        DOC.due("as much, 1 against 0: fight(0)", turned.fight(0), 0);
    }

    private static void prideOfDuels() {
        of("The pride of the winner becomes 1 more (9 at most), that of the other one 2 less (0 at least);");
        int[][] winners = {{0, 1}, {7, 8}, {8, 9}, {9, 9}};
        for (int[] pride : winners) {
            Ways offender = duel(pride[0], 9, 5, 0);
            offender.fight(0);
            DOC.due("the offender wins, of pride " + pride[0] + ": of(0, 0)", offender.of(0, 0), pride[1]);
            DOC.due("of(1, 0)", offender.of(1, 0), 3);
            Ways offended = duel(5, 0, pride[0], 9);
            offended.fight(0);
            DOC.due("the offended one wins, of pride " + pride[0] + ": of(1, 0)", offended.of(1, 0), pride[1]);
            DOC.due("of(0, 0)", offended.of(0, 0), 3);
        }
        int[][] losers = {{0, 0}, {1, 0}, {2, 0}, {3, 1}, {9, 7}};
        for (int[] pride : losers) {
            Ways ways = duel(5, 9, pride[0], 0);
            ways.fight(0);
            DOC.due("the other one, of pride " + pride[0] + ": of(1, 0)", ways.of(1, 0), pride[1]);
            DOC.due("of(0, 0)", ways.of(0, 0), 6);
            DOC.due("tact stays: of(0, 1)", ways.of(0, 1), 9);
            DOC.due("tact stays: of(1, 1)", ways.of(1, 1), 0);
        }
    }

    /** How long the oath of 1 holds behind a duel with OATH 10, if an oath of so many hours was sworn before. */
    private static int oathBehindDuel(int sworn) {
        Ways ways = duel(9, 9, 9, 9);
        ways.allow(3);
        ways.set(OATH, sworn);
        ways.swear(1);
        ways.set(OATH, 10);
        ways.fight(0);
        DOC.due("the one who swore nothing: of(0, 3)", ways.of(0, 3), 10);
        return ways.of(1, 3);
    }

    private static void oathsOfDuels() {
        of("both are under an oath for OATH hours from now on (one that holds longer stays).");
        DOC.due("an oath of 9 hours becomes longer", oathBehindDuel(9), 10);
        DOC.due("one of 10 hours is as long", oathBehindDuel(10), 10);
        DOC.due("one of 11 hours stays", oathBehindDuel(11), 11);
        DOC.due("one of 200 hours stays", oathBehindDuel(200), 200);
        Ways ways = Towns.quarrel();
        ways.pass(30);
        ways.set(OATH, 1);
        ways.fight(0);
        DOC.due("count(8)", ways.count(8), 3);
        DOC.due("from now on: of(0, 3)", ways.of(0, 3), 1);
        DOC.due("from now on: of(1, 3)", ways.of(1, 3), 1);
        ways.pass(1);
        DOC.due("count(8)", ways.count(8), 0);
        of("The quarrel is fought.");
        DOC.due("quarrel(0, 4)", ways.quarrel(0, 4), 2);
        DOC.due("count(6)", ways.count(6), 1);
        DOC.due("count(3)", ways.count(3), 0);
    }

    // ---- The record

    private static void event(Ways ways, int rank, int kind, int hour, int about) {
        DOC.due("record(" + rank + ", 0)", ways.record(rank, 0), kind);
        DOC.due("record(" + rank + ", 1)", ways.record(rank, 1), hour);
        DOC.due("record(" + rank + ", 2)", ways.record(rank, 2), about);
    }

    private static void latestTwelve() {
        DOC.of("The record", "The record tells the latest 12 of these:");
        Ways ways = Towns.proud(10);
        DOC.due("of none: record(0, 0)", ways.record(0, 0), NO_SUCH);
        for (int person = 0; person < 9; person++) {
            ways.pass(1);
            ways.swear(person);
            DOC.due("the oldest: record(" + person + ", 1)", ways.record(person, 1), 1);
            DOC.due("one more: record(" + (person + 1) + ", 1)", ways.record(person + 1, 1), NO_SUCH);
        }
        ways.insult(9, 8, 9);
        ways.insult(9, 7, 9);
        event(ways, 10, 3, 1, 0);
        DOC.due("of eleven: record(11, 0)", ways.record(11, 0), NO_SUCH);
        ways.pass(1);
        ways.settle(1, 3);
        event(ways, 0, 1, 10, 1);
        event(ways, 11, 3, 1, 0);
        DOC.due("of twelve: record(12, 0)", ways.record(12, 0), NO_SUCH);
        ways.swear(9);
        event(ways, 0, 3, 10, 9);
        event(ways, 11, 3, 2, 1);
        DOC.due("of thirteen: record(12, 0)", ways.record(12, 0), NO_SUCH);
        for (int left = 5; left >= 4; left--) {
            ways.undo();
        }
        event(ways, 10, 3, 1, 0);
        DOC.due("the thirteenth is undone: record(11, 0)", ways.record(11, 0), NO_SUCH);
    }

    private static void manyEvents() {
        DOC.of("The record", "The record tells the latest 12 of these:");
        Ways ways = Towns.proud(1);
        ways.set(OATH, 1);
        for (int hour = 0; hour < 40; hour++) {
            ways.swear(0);
            DOC.due("record(" + Math.min(11, hour) + ", 1)", ways.record(Math.min(11, hour), 1), Math.max(0, hour - 11));
            DOC.due("record(" + Math.min(12, hour + 1) + ", 1)", ways.record(Math.min(12, hour + 1), 1), NO_SUCH);
            ways.pass(1);
        }
    }

    private static void kindsOfEvents() {
        DOC.of("The record", "0 an insult, 1 a quarrel was settled, 2 a duel was fought, 3 an oath was sworn.");
        Ways ways = new Ways();
        Towns.busy(ways);
        ways.swear(4);
        int[][] events = {{3, 78, 4}, {0, 54, 3}, {0, 54, 2}, {2, 24, 1}, {0, 0, 1}, {1, 0, 0}, {0, 0, 0}, {3, 0, 0}};
        for (int rank = 0; rank < events.length; rank++) {
            event(ways, rank, events[rank][0], events[rank][1], events[rank][2]);
        }
        DOC.due("nothing else is told: record(8, 0)", ways.record(8, 0), NO_SUCH);
    }

    public static void main(String[] args) {
        theCode();
        openOrNot();
        apology();
        bothHaveASecond();
        neitherOfBoth();
        unlikeSeconds();
        tactOfSeconds();
        cooling();
        oath();
        peace();
        endOfPeace();
        dueDuels();
        settledAtThisHour();
        prideOfApology();
        tactOfWords();
        nothingElse();
        skill();
        prideOfDuels();
        oathsOfDuels();
        latestTwelve();
        manyEvents();
        kindsOfEvents();
        DOC.end();
    }
}
