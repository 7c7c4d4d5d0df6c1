/** Starts that many tests use. */
final class Towns {
    private Towns() {
    }

    /** Neither apologies nor seconds open a way among them. */
    static Ways proud(int persons) {
        return new Ways().people(persons, 9, 4);
    }

    /** Two proud ones, and an insult of rank 9 of the first to the next, for which no way is open. */
    static Ways quarrel() {
        Ways ways = proud(2);
        ways.insult(0, 1, 9);
        return ways;
    }

    /**
     * At hour 78 five persons, 1 and 2 under an oath to hour 96; quarrel 0 settled, 1 fought, 2 open with a way
     * (an oath), 3 due; a full history, the start of quarrel 1 in slot 0, nothing in slot 1, 5 characters on the pad.
     */
    static void busy(Ways ways) {
        ways.person(1, 4);
        ways.people(1, 9, 4).people(1, 9, 5).people(1, 9, 8).people(1, 9, 9);
        ways.second(0, 3);
        ways.second(1, 4);
        ways.swear(0);
        ways.insult(0, 1, 8);
        ways.settle(0, 0);
        ways.insult(1, 2, 9);
        ways.save(0);
        ways.pass(24);
        ways.fight(1);
        ways.pass(30);
        ways.insult(2, 3, 9);
        ways.insult(3, 4, 7);
        ways.pass(24);
        ways.write("a0;t5");
    }

    /** Ten persons and twelve quarrels, all that a town holds: 0 settled, the others open. */
    static void full(Ways ways) {
        ways.people(10, 9, 4);
        ways.swear(0);
        ways.insult(0, 1, 9);
        ways.settle(0, 3);
        for (int offended = 2; offended < 10; offended++) {
            ways.insult(0, offended, 9);
        }
        for (int offended = 2; offended < 5; offended++) {
            ways.insult(1, offended, 9);
        }
        ways.save(1);
        ways.write("o9;t7");
    }

    /** The busy town at a later hour. */
    static Sentences.Start busyAt(int hour) {
        return ways -> {
            busy(ways);
            ways.later(hour - 78);
        };
    }
}
