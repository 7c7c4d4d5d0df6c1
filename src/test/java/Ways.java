/** A QuarrelWays for the tests, with its calls counted: what it answers behind the 512th is free, so none may ask. */
final class Ways {
    static final int MOST_CALLS = 512;

    private final QuarrelWays ways = new QuarrelWays();
    private int calls = 0;

    int calls() {
        return calls;
    }

    private QuarrelWays next() {
        if (calls == MOST_CALLS) {
            throw new IllegalStateException("a test makes more than " + MOST_CALLS + " calls on one object");
        }
        calls++;
        return ways;
    }

    int set(int setting, int value) {
        return next().set(setting, value);
    }

    int person(int pride, int tact) {
        return next().person(pride, tact);
    }

    int second(int person, int second) {
        return next().second(person, second);
    }

    int allow(int way) {
        return next().allow(way);
    }

    int insult(int offender, int offended, int rank) {
        return next().insult(offender, offended, rank);
    }

    int settle(int quarrel, int way) {
        return next().settle(quarrel, way);
    }

    int fight(int quarrel) {
        return next().fight(quarrel);
    }

    int swear(int person) {
        return next().swear(person);
    }

    int pass(int hours) {
        return next().pass(hours);
    }

    int of(int person, int what) {
        return next().of(person, what);
    }

    int quarrel(int quarrel, int what) {
        return next().quarrel(quarrel, what);
    }

    int record(int rank, int what) {
        return next().record(rank, what);
    }

    int pressing(int rank) {
        return next().pressing(rank);
    }

    int insults(int rank) {
        return next().insults(rank);
    }

    int count(int what) {
        return next().count(what);
    }

    int why(int quarrel) {
        return next().why(quarrel);
    }

    int firstWay(int quarrel) {
        return next().firstWay(quarrel);
    }

    int opensIn(int quarrel) {
        return next().opensIn(quarrel);
    }

    int dueIn(int quarrel) {
        return next().dueIn(quarrel);
    }

    int ifInsulted(int offender, int offended, int rank) {
        return next().ifInsulted(offender, offended, rank);
    }

    int ifFought(int quarrel) {
        return next().ifFought(quarrel);
    }

    int put(long characters) {
        return next().put(characters);
    }

    int wipe() {
        return next().wipe();
    }

    int fault() {
        return next().fault();
    }

    int carryOut() {
        return next().carryOut();
    }

    int undo() {
        return next().undo();
    }

    int save(int slot) {
        return next().save(slot);
    }

    int restore(int slot) {
        return next().restore(slot);
    }

    // ---- some calls in one

    /** Appends a text of any length to the pad. */
    Ways write(String text) {
        for (int from = 0; from < text.length(); from += 8) {
            put(packed(text.substring(from, Math.min(text.length(), from + 8))));
        }
        return this;
    }

    int carryOut(String text) {
        return write(text).carryOut();
    }

    Ways people(int number, int pride, int tact) {
        for (int person = 0; person < number; person++) {
            person(pride, tact);
        }
        return this;
    }

    /** Lets any number of hours pass. */
    Ways later(int hours) {
        for (int left = hours; left > 0; left -= 99) {
            pass(Math.min(left, 99));
        }
        return this;
    }

    /** A text as put() takes it. */
    static long packed(String text) {
        long number = 0;
        for (int i = 0; i < text.length(); i++) {
            number = number << 8 | text.charAt(i);
        }
        return number;
    }
}
