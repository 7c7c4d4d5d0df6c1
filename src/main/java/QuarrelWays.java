/**
 * A duelling code that finds a way out of nearly each quarrel.
 *
 * The public methods look after the history, the slots and the pad; what the code says of persons
 * and quarrels stands in Town, the grammar of the texts in Pad.
 */
public final class QuarrelWays {
    public static final int NO_SUCH = -1, BAD_VALUE = -2, BAD_TEXT = -3, TOO_MANY = -4, NOT_POSSIBLE = -5, NONE = -6;
    public static final int COOL = 0, NOTICE = 1, OATH = 2, PEACE = 3;

    private static final int SLOTS = 2;

    private final Town town = new Town();
    private final History history = new History();
    private final Pad pad = new Pad();
    /** A slot in which nothing was saved is null. */
    private final Town[] slots = new Town[SLOTS];

    public QuarrelWays() {
    }

    // ---- changes

    public int set(int setting, int value) {
        history.note(town);
        return history.keepUnlessError(town.changeSetting(setting, value));
    }

    public int person(int pride, int tact) {
        history.note(town);
        return history.keepUnlessError(town.addPerson(pride, tact));
    }

    public int second(int person, int second) {
        history.note(town);
        return history.keepUnlessError(town.takeSecond(person, second));
    }

    public int allow(int way) {
        history.note(town);
        return history.keepUnlessError(town.allowOrBar(way));
    }

    public int insult(int offender, int offended, int rank) {
        history.note(town);
        return history.keepUnlessError(town.addQuarrel(offender, offended, rank));
    }

    public int settle(int quarrel, int way) {
        history.note(town);
        return history.keepUnlessError(town.settleBy(quarrel, way));
    }

    public int fight(int quarrel) {
        history.note(town);
        return history.keepUnlessError(town.duel(quarrel));
    }

    public int swear(int person) {
        history.note(town);
        return history.keepUnlessError(town.takeOath(person));
    }

    public int pass(int hours) {
        history.note(town);
        int answer = history.keepUnlessError(town.moveOn(hours));
        return isError(answer) ? answer : Integer.bitCount(town.dueQuarrels());
    }

    // ---- what there is

    public int of(int person, int what) {
        return town.tellPerson(person, what);
    }

    public int quarrel(int quarrel, int what) {
        return town.tellQuarrel(quarrel, what);
    }

    public int record(int rank, int what) {
        return town.tellEvent(rank, what);
    }

    public int pressing(int rank) {
        return town.quarrelThatPresses(rank);
    }

    public int insults(int rank) {
        return town.insultsFrom(rank);
    }

    public int count(int what) {
        if (what == 13) {
            return pad.length;
        }
        if (what == 14) {
            return history.size;
        }
        return town.tellNumber(what);
    }

    // ---- what if; nothing changes

    public int why(int quarrel) {
        return town.hasQuarrel(quarrel) ? town.whyNotDue(quarrel, town.waysOf(quarrel)) : NO_SUCH;
    }

    public int firstWay(int quarrel) {
        return town.hasQuarrel(quarrel) ? Town.firstOf(town.waysOf(quarrel)) : NO_SUCH;
    }

    public int opensIn(int quarrel) {
        if (!town.hasQuarrel(quarrel)) {
            return NO_SUCH;
        }
        return town.isOpen(quarrel) ? town.hoursUntilWay(quarrel) : NOT_POSSIBLE;
    }

    public int dueIn(int quarrel) {
        if (!town.hasQuarrel(quarrel)) {
            return NO_SUCH;
        }
        return town.isOpen(quarrel) ? town.hoursUntilDuel(quarrel) : NOT_POSSIBLE;
    }

    public int ifInsulted(int offender, int offended, int rank) {
        int error = town.errorOfInsult(offender, offended, rank);
        return error != 0 ? error : town.waysBetween(offender, offended, rank, 0);
    }

    public int ifFought(int quarrel) {
        return town.hasQuarrel(quarrel) ? town.winnerOf(quarrel) : NO_SUCH;
    }

    // ---- texts

    public int put(long characters) {
        int number = Pad.signsIn(characters);
        if (number == 0) {
            return BAD_VALUE;
        }
        return pad.append(characters, number) ? pad.length : TOO_MANY;
    }

    public int wipe() {
        int length = pad.length;
        pad.length = 0;
        return length;
    }

    public int fault() {
        return pad.firstFault();
    }

    public int carryOut() {
        if (pad.firstFault() != NONE) {
            return BAD_TEXT;
        }
        history.note(town);
        int done = 0;
        pad.at = 0;
        for (int orders = 0; orders < Pad.MOST_SIGNS && pad.readOrder(); orders++) {
            if (isError(carryOutOrder())) {
                break;
            }
            done++;
            pad.stepOverSemicolon();
        }
        pad.length = 0;
        return history.keepUnlessError(done);
    }

    // ---- undo, saving

    public int undo() {
        return history.goBack(town) ? history.size : NOT_POSSIBLE;
    }

    public int save(int slot) {
        if (!isSlot(slot)) {
            return BAD_VALUE;
        }
        Town saved = slots[slot];
        if (saved == null) {
            saved = new Town();
            slots[slot] = saved;
        }
        saved.become(town);
        return town.quarrels;
    }

    public int restore(int slot) {
        if (!isSlot(slot)) {
            return BAD_VALUE;
        }
        Town saved = slots[slot];
        if (saved == null) {
            return NOT_POSSIBLE;
        }
        history.note(town);
        town.become(saved);
        return history.keepUnlessError(town.quarrels);
    }

    private boolean isSlot(int slot) {
        return slot >= 0 && slot < slots.length;
    }

    /** NONE lies below the error codes, but is no error: a first second() answers it. */
    private static boolean isError(int answer) {
        return answer < 0 && answer != NONE;
    }

    /** Carries out the order that the pad has just read, and returns what the order answers. */
    private int carryOutOrder() {
        int first = pad.number(0);
        int next = pad.number(1);
        switch (pad.order) {
            case 'p': return town.addPerson(first, next);
            case 's': return town.takeSecond(first, next);
            case 'i': return town.addQuarrel(first, next, pad.number(2));
            case 'w': return town.settleBy(first, next);
            case 'f': return town.duel(first);
            case 'o': return town.takeOath(first);
            case 't': return town.moveOn(first);
            case 'a': return town.allowOrBar(first);
            default: return BAD_TEXT;
        }
    }

    /**
     * Everything that is saved and undone: settings, persons, quarrels, the hour and the record.
     * All rows stand in one array, so that a whole state is kept or brought back by one copy.
     */
    private static final class Town {
        private static final int MOST_PERSONS = 10, MOST_QUARRELS = 12, MOST_EVENTS = 12;
        private static final int MOST_POINTS = 9, MOST_RANK = 9, MOST_PASSED = 99, LAST_HOUR = 9999, FARTHEST = 500;

        private static final int APOLOGY = 0, SECONDS = 1, COOLING = 2, SWORN = 3, OLD_PEACE = 4, WAYS = 5;
        private static final int OPEN = 0, SETTLED = 1, FOUGHT = 2;
        private static final int INSULT_CAME = 0, WAS_SETTLED = 1, WAS_FOUGHT = 2, OATH_SWORN = 3;

        private static final int[] LOWEST = {1, 0, 1, 0};
        private static final int[] HIGHEST = {48, 99, 200, 400};

        // Where each row begins: the settings, then rows of persons, of quarrels, of events.
        private static final int SETTINGS = 0;
        private static final int PRIDE = SETTINGS + 4;
        private static final int TACT = PRIDE + MOST_PERSONS;
        private static final int SECOND = TACT + MOST_PERSONS;
        private static final int OATH_END = SECOND + MOST_PERSONS;
        private static final int OFFENDER = OATH_END + MOST_PERSONS;
        private static final int OFFENDED = OFFENDER + MOST_QUARRELS;
        private static final int RANK = OFFENDED + MOST_QUARRELS;
        private static final int CAME_AT = RANK + MOST_QUARRELS;
        private static final int STATE = CAME_AT + MOST_QUARRELS;
        private static final int SETTLED_BY = STATE + MOST_QUARRELS;
        private static final int SETTLED_AT = SETTLED_BY + MOST_QUARRELS;
        private static final int WINNER = SETTLED_AT + MOST_QUARRELS;
        private static final int EVENT_KIND = WINNER + MOST_QUARRELS;
        private static final int EVENT_HOUR = EVENT_KIND + MOST_EVENTS;
        private static final int EVENT_OF = EVENT_HOUR + MOST_EVENTS;
        private static final int SIZE = EVENT_OF + MOST_EVENTS;

        private int hour = 0;
        private int allowed = (1 << WAYS) - 1;
        private int persons = 0;
        private int quarrels = 0;
        /** How many events there have been, also those that the record tells no more. */
        private int events = 0;
        private final int[] cells = new int[SIZE];

        private Town() {
            write(SETTINGS, COOL, 12);
            write(SETTINGS, NOTICE, 24);
            write(SETTINGS, OATH, 72);
            write(SETTINGS, PEACE, 100);
        }

        private int read(int row, int index) {
            int cell = row + index;
            return cell >= 0 && cell < cells.length ? cells[cell] : 0;
        }

        private void write(int row, int index, int value) {
            int cell = row + index;
            if (cell >= 0 && cell < cells.length) {
                cells[cell] = value;
            }
        }

        private void become(Town other) {
            hour = other.hour;
            allowed = other.allowed;
            persons = other.persons;
            quarrels = other.quarrels;
            events = other.events;
            System.arraycopy(other.cells, 0, cells, 0, Math.min(other.cells.length, cells.length));
        }

        // ---- small questions

        private boolean hasPerson(int person) {
            return person >= 0 && person < persons;
        }

        private boolean hasQuarrel(int quarrel) {
            return quarrel >= 0 && quarrel < quarrels;
        }

        private boolean isOpen(int quarrel) {
            return read(STATE, quarrel) == OPEN;
        }

        private boolean allows(int way) {
            return (allowed & 1 << way) != 0;
        }

        private int hoursSince(int quarrel) {
            return hour - read(CAME_AT, quarrel);
        }

        private int oathLeft(int person) {
            return Math.max(0, read(OATH_END, person) - hour);
        }

        private static boolean isPoints(int value) {
            return value >= 0 && value <= MOST_POINTS;
        }

        private static boolean isRank(int rank) {
            return rank >= 1 && rank <= MOST_RANK;
        }

        /** Whether both are the two of a quarrel, whoever is the offender. */
        private static boolean areThese(int one, int other, int offender, int offended) {
            return one == offender && other == offended || one == offended && other == offender;
        }

        // ---- changes; each one checks all its errors before it writes anything

        private int changeSetting(int setting, int value) {
            if (setting < 0 || setting >= LOWEST.length || setting >= HIGHEST.length) {
                return BAD_VALUE;
            }
            if (value < LOWEST[setting] || value > HIGHEST[setting]) {
                return BAD_VALUE;
            }
            int previous = read(SETTINGS, setting);
            write(SETTINGS, setting, value);
            return previous;
        }

        private int addPerson(int pride, int tact) {
            if (!isPoints(pride) || !isPoints(tact)) {
                return BAD_VALUE;
            }
            if (persons >= MOST_PERSONS) {
                return TOO_MANY;
            }
            int person = persons;
            write(PRIDE, person, pride);
            write(TACT, person, tact);
            write(SECOND, person, NONE);
            write(OATH_END, person, 0);
            persons++;
            return person;
        }

        private int takeSecond(int person, int second) {
            if (!hasPerson(person) || !hasPerson(second)) {
                return NO_SUCH;
            }
            if (person == second) {
                return BAD_VALUE;
            }
            int previous = read(SECOND, person);
            write(SECOND, person, second);
            return previous;
        }

        private int allowOrBar(int way) {
            if (way < 0 || way >= WAYS) {
                return NO_SUCH;
            }
            allowed ^= 1 << way;
            return allowed;
        }

        /** The errors that insult() and ifInsulted() share; 0 if there is none. */
        private int errorOfInsult(int offender, int offended, int rank) {
            if (!hasPerson(offender) || !hasPerson(offended)) {
                return NO_SUCH;
            }
            return offender == offended || !isRank(rank) ? BAD_VALUE : 0;
        }

        private boolean haveOpenQuarrel(int one, int other) {
            for (int quarrel = 0; quarrel < quarrels; quarrel++) {
                if (isOpen(quarrel) && areThese(one, other, read(OFFENDER, quarrel), read(OFFENDED, quarrel))) {
                    return true;
                }
            }
            return false;
        }

        private int addQuarrel(int offender, int offended, int rank) {
            int error = errorOfInsult(offender, offended, rank);
            if (error != 0) {
                return error;
            }
            if (haveOpenQuarrel(offender, offended)) {
                return NOT_POSSIBLE;
            }
            if (quarrels >= MOST_QUARRELS) {
                return TOO_MANY;
            }
            int quarrel = quarrels;
            write(OFFENDER, quarrel, offender);
            write(OFFENDED, quarrel, offended);
            write(RANK, quarrel, rank);
            write(CAME_AT, quarrel, hour);
            write(STATE, quarrel, OPEN);
            write(SETTLED_BY, quarrel, NONE);
            write(SETTLED_AT, quarrel, 0);
            write(WINNER, quarrel, NONE);
            quarrels++;
            addEvent(INSULT_CAME, quarrel);
            return quarrel;
        }

        private int settleBy(int quarrel, int way) {
            if (!hasQuarrel(quarrel) || way < 0 || way >= WAYS) {
                return NO_SUCH;
            }
            if ((waysOf(quarrel) & 1 << way) == 0) {
                return NOT_POSSIBLE;
            }
            if (way == APOLOGY) {
                addPoints(PRIDE, read(OFFENDER, quarrel), -1);
            } else if (way == SECONDS) {
                addPoints(TACT, read(SECOND, read(OFFENDER, quarrel)), 1);
                addPoints(TACT, read(SECOND, read(OFFENDED, quarrel)), 1);
            }
            write(STATE, quarrel, SETTLED);
            write(SETTLED_BY, quarrel, way);
            write(SETTLED_AT, quarrel, hour);
            addEvent(WAS_SETTLED, quarrel);
            return quarrelsWith(STATE, OPEN);
        }

        private int duel(int quarrel) {
            if (!hasQuarrel(quarrel)) {
                return NO_SUCH;
            }
            if (whyNotDue(quarrel, waysOf(quarrel)) != 0) {
                return NOT_POSSIBLE;
            }
            int offender = read(OFFENDER, quarrel);
            int offended = read(OFFENDED, quarrel);
            int winner = winnerOf(quarrel);
            addPoints(PRIDE, winner, 1);
            addPoints(PRIDE, winner == offender ? offended : offender, -2);
            bindByOath(offender);
            bindByOath(offended);
            write(STATE, quarrel, FOUGHT);
            write(WINNER, quarrel, winner);
            addEvent(WAS_FOUGHT, quarrel);
            return winner;
        }

        private int takeOath(int person) {
            if (!hasPerson(person)) {
                return NO_SUCH;
            }
            if (oathLeft(person) > 0) {
                return NOT_POSSIBLE;
            }
            bindByOath(person);
            addEvent(OATH_SWORN, person);
            return read(OATH_END, person);
        }

        /** Returns the hour; which duels are due then is a question of its own, of pass() alone. */
        private int moveOn(int hours) {
            if (hours < 1 || hours > MOST_PASSED) {
                return BAD_VALUE;
            }
            int then = hour + hours;
            if (then > LAST_HOUR) {
                return NOT_POSSIBLE;
            }
            hour = then;
            return then;
        }

        private void addPoints(int row, int person, int more) {
            int points = read(row, person) + more;
            write(row, person, Math.max(0, Math.min(MOST_POINTS, points)));
        }

        private void bindByOath(int person) {
            int end = hour + read(SETTINGS, OATH);
            write(OATH_END, person, Math.max(end, read(OATH_END, person)));
        }

        /** The rows of events go round: one more overwrites the oldest. */
        private void addEvent(int kind, int about) {
            int place = Math.floorMod(events, MOST_EVENTS);
            write(EVENT_KIND, place, kind);
            write(EVENT_HOUR, place, hour);
            write(EVENT_OF, place, about);
            events++;
        }

        // ---- ways out and duels

        private int waysOf(int quarrel) {
            if (!isOpen(quarrel)) {
                return 0;
            }
            return waysBetween(read(OFFENDER, quarrel), read(OFFENDED, quarrel), read(RANK, quarrel), hoursSince(quarrel));
        }

        private int waysBetween(int offender, int offended, int rank, int hoursSince) {
            int ways = 0;
            if (read(PRIDE, offender) + rank <= MOST_POINTS) {
                ways |= 1 << APOLOGY;
            }
            if (secondsCanSettle(offender, offended, rank)) {
                ways |= 1 << SECONDS;
            }
            if (hoursSince >= hoursToCool(rank)) {
                ways |= 1 << COOLING;
            }
            if (oathLeft(offender) > 0 || oathLeft(offended) > 0) {
                ways |= 1 << SWORN;
            }
            if (peaceLeft(offender, offended) >= 0) {
                ways |= 1 << OLD_PEACE;
            }
            return ways & allowed;
        }

        private static int firstOf(int ways) {
            for (int way = 0; way < WAYS; way++) {
                if ((ways & 1 << way) != 0) {
                    return way;
                }
            }
            return NONE;
        }

        private boolean secondsCanSettle(int offender, int offended, int rank) {
            int one = read(SECOND, offender);
            int other = read(SECOND, offended);
            if (one == NONE || other == NONE || one == other || one == offended || other == offender) {
                return false;
            }
            return read(TACT, one) + read(TACT, other) >= 2 * rank;
        }

        private int hoursToCool(int rank) {
            return read(SETTINGS, COOL) * rank;
        }

        /** For how many hours yet, this one not counted, an older peace of both holds; below 0: none does. */
        private int peaceLeft(int one, int other) {
            int left = -1;
            for (int quarrel = 0; quarrel < quarrels; quarrel++) {
                if (read(STATE, quarrel) == SETTLED && areThese(one, other, read(OFFENDER, quarrel), read(OFFENDED, quarrel))) {
                    left = Math.max(left, read(SETTLED_AT, quarrel) + read(SETTINGS, PEACE) - hour);
                }
            }
            return left;
        }

        /** The callers bring the ways that are open for the quarrel, which keeps the calls from going too deep. */
        private int whyNotDue(int quarrel, int ways) {
            if (!isOpen(quarrel)) {
                return 1;
            }
            if (ways != 0) {
                return 2;
            }
            return hoursSince(quarrel) < read(SETTINGS, NOTICE) ? 3 : 0;
        }

        /** Nothing but cooling opens by waiting: oaths and peace run out, the other ways stay as they are. */
        private int hoursUntilWay(int quarrel) {
            if (waysOf(quarrel) != 0) {
                return 0;
            }
            return allows(COOLING) ? orNoneIfTooFar(hoursUntilCool(quarrel)) : NONE;
        }

        /** A duel waits for the notice, the oaths and the peace to run out; from the cooling on it is too late. */
        private int hoursUntilDuel(int quarrel) {
            if ((waysOf(quarrel) & (1 << APOLOGY | 1 << SECONDS)) != 0) {
                return NONE;
            }
            int offender = read(OFFENDER, quarrel);
            int offended = read(OFFENDED, quarrel);
            int hours = Math.max(0, read(SETTINGS, NOTICE) - hoursSince(quarrel));
            if (allows(SWORN)) {
                hours = Math.max(hours, Math.max(oathLeft(offender), oathLeft(offended)));
            }
            if (allows(OLD_PEACE)) {
                hours = Math.max(hours, peaceLeft(offender, offended) + 1);
            }
            return allows(COOLING) && hours >= hoursUntilCool(quarrel) ? NONE : orNoneIfTooFar(hours);
        }

        private int hoursUntilCool(int quarrel) {
            return hoursToCool(read(RANK, quarrel)) - hoursSince(quarrel);
        }

        private static int orNoneIfTooFar(int hours) {
            return hours > FARTHEST ? NONE : hours;
        }

        private int winnerOf(int quarrel) {
            int offender = read(OFFENDER, quarrel);
            int offended = read(OFFENDED, quarrel);
            return skillOf(offender) > skillOf(offended) ? offender : offended;
        }

        private int skillOf(int person) {
            return 2 * read(TACT, person) + read(PRIDE, person);
        }

        // ---- what there is

        private int tellPerson(int person, int what) {
            if (!hasPerson(person)) {
                return NO_SUCH;
            }
            switch (what) {
                case 0: return read(PRIDE, person);
                case 1: return read(TACT, person);
                case 2: return read(SECOND, person);
                case 3: return oathLeft(person);
                case 4: return quarrelsWith(OFFENDER, person);
                case 5: return quarrelsWith(OFFENDED, person);
                case 6: return quarrelsWith(WINNER, person);
                case 7: return duelsOf(person);
                case 8: return personsWithSecond(person);
                default: return BAD_VALUE;
            }
        }

        private int tellQuarrel(int quarrel, int what) {
            if (!hasQuarrel(quarrel)) {
                return NO_SUCH;
            }
            switch (what) {
                case 0: return read(OFFENDER, quarrel);
                case 1: return read(OFFENDED, quarrel);
                case 2: return read(RANK, quarrel);
                case 3: return hoursSince(quarrel);
                case 4: return read(STATE, quarrel);
                case 5: return read(SETTLED_BY, quarrel);
                case 6: return read(WINNER, quarrel);
                case 7: return waysOf(quarrel);
                default: return BAD_VALUE;
            }
        }

        private int tellEvent(int rank, int what) {
            if (rank < 0 || rank >= Math.min(events, MOST_EVENTS)) {
                return NO_SUCH;
            }
            int place = Math.floorMod(events - 1 - rank, MOST_EVENTS);
            switch (what) {
                case 0: return read(EVENT_KIND, place);
                case 1: return read(EVENT_HOUR, place);
                case 2: return read(EVENT_OF, place);
                default: return BAD_VALUE;
            }
        }

        /** The quarrel of a rank is the one that so many others go before. */
        private int quarrelThatPresses(int rank) {
            for (int quarrel = 0; quarrel < quarrels; quarrel++) {
                if (isOpen(quarrel) && quarrelsBefore(quarrel) == rank) {
                    return quarrel;
                }
            }
            return NO_SUCH;
        }

        private int quarrelsBefore(int quarrel) {
            int before = 0;
            for (int other = 0; other < quarrels; other++) {
                int more = pressureOf(other) - pressureOf(quarrel);
                if (isOpen(other) && (more > 0 || more == 0 && other < quarrel)) {
                    before++;
                }
            }
            return before;
        }

        private int pressureOf(int quarrel) {
            return (hoursSince(quarrel) + 1) * read(RANK, quarrel);
        }

        private int insultsFrom(int rank) {
            if (!isRank(rank)) {
                return BAD_VALUE;
            }
            int insults = 0;
            for (int quarrel = 0; quarrel < quarrels; quarrel++) {
                if (read(RANK, quarrel) >= rank) {
                    insults++;
                }
            }
            return insults;
        }

        private int tellNumber(int what) {
            switch (what) {
                case 0: return hour;
                case 1: return persons;
                case 2: return quarrels;
                case 3: return openQuarrels();
                case 4: return dueQuarrels();
                case 5: return quarrelsWith(STATE, SETTLED);
                case 6: return quarrelsWith(STATE, FOUGHT);
                case 7: return allowed;
                case 8: return personsUnderOath();
                case 9: return read(SETTINGS, COOL);
                case 10: return read(SETTINGS, NOTICE);
                case 11: return read(SETTINGS, OATH);
                case 12: return read(SETTINGS, PEACE);
                default: return BAD_VALUE;
            }
        }

        private int quarrelsWith(int row, int value) {
            int found = 0;
            for (int quarrel = 0; quarrel < quarrels; quarrel++) {
                if (read(row, quarrel) == value) {
                    found++;
                }
            }
            return found;
        }

        private int duelsOf(int person) {
            int duels = 0;
            for (int quarrel = 0; quarrel < quarrels; quarrel++) {
                boolean takesPart = read(OFFENDER, quarrel) == person || read(OFFENDED, quarrel) == person;
                if (takesPart && read(STATE, quarrel) == FOUGHT) {
                    duels++;
                }
            }
            return duels;
        }

        private int openQuarrels() {
            int set = 0;
            for (int quarrel = 0; quarrel < quarrels; quarrel++) {
                if (isOpen(quarrel)) {
                    set |= 1 << quarrel;
                }
            }
            return set;
        }

        private int dueQuarrels() {
            int set = 0;
            for (int quarrel = 0; quarrel < quarrels; quarrel++) {
                if (whyNotDue(quarrel, waysOf(quarrel)) == 0) {
                    set |= 1 << quarrel;
                }
            }
            return set;
        }

        private int personsUnderOath() {
            int set = 0;
            for (int person = 0; person < persons; person++) {
                if (oathLeft(person) > 0) {
                    set |= 1 << person;
                }
            }
            return set;
        }

        private int personsWithSecond(int second) {
            int set = 0;
            for (int person = 0; person < persons; person++) {
                if (read(SECOND, person) == second) {
                    set |= 1 << person;
                }
            }
            return set;
        }
    }

    /**
     * The states before the latest changes. A state is noted ahead of a change, and kept when the
     * change has turned out to be none that fails; so there is one place more than states kept.
     */
    private static final class History {
        private static final int MOST_STATES = 6, PLACES = MOST_STATES + 1;

        private final Town[] states = new Town[PLACES];
        private int oldest = 0;
        private int size = 0;

        private History() {
            for (int place = 0; place < states.length; place++) {
                states[place] = new Town();
            }
        }

        private void note(Town town) {
            Town state = stateAt(size);
            if (state != null) {
                state.become(town);
            }
        }

        private int keepUnlessError(int answer) {
            if (isError(answer)) {
                return answer;
            }
            if (size < MOST_STATES) {
                size++;
            } else {
                oldest = placeOf(1);
            }
            return answer;
        }

        private boolean goBack(Town town) {
            Town state = stateAt(size - 1);
            if (size == 0 || state == null) {
                return false;
            }
            town.become(state);
            size--;
            return true;
        }

        private Town stateAt(int age) {
            int place = placeOf(age);
            return place >= 0 && place < states.length ? states[place] : null;
        }

        /** The places go round: age 0 is the oldest state, wherever it stands. */
        private int placeOf(int age) {
            return Math.floorMod(oldest + age, PLACES);
        }
    }

    /** The text, and a reader that goes over it from left to right, one order at a time. */
    private static final class Pad {
        private static final int MOST_SIGNS = 80, MOST_AT_ONCE = 8;
        private static final int LOWEST_SIGN = 33, HIGHEST_SIGN = 126;

        private final int[] signs = new int[MOST_SIGNS];
        private int length = 0;
        /** Where the reader stands: behind what it has read, or on what cannot stand there. */
        private int at = 0;
        /** The order that was read last: its letter, and its digits and numbers in their row. */
        private int order = 0;
        private final int[] numbers = new int[3];
        private int numbersRead = 0;

        /** How many signs a number of put() holds; 0 if it is not one that put() takes. */
        private static int signsIn(long characters) {
            long rest = characters;
            int number = 0;
            while (number < MOST_AT_ONCE && (rest & 255) != 0) {
                if ((rest & 255) < LOWEST_SIGN || (rest & 255) > HIGHEST_SIGN) {
                    return 0;
                }
                rest >>>= 8;
                number++;
            }
            return rest == 0 ? number : 0;
        }

        private boolean append(long characters, int number) {
            if (number < 0 || number > MOST_AT_ONCE || length + number > MOST_SIGNS) {
                return false;
            }
            for (int behind = number - 1; behind >= 0; behind--) {
                addSign((int) (characters >>> 8 * behind & 255));
            }
            return true;
        }

        private void addSign(int sign) {
            if (length >= 0 && length < signs.length) {
                signs[length] = sign;
                length++;
            }
        }

        /** The sign at an index; 0, which no pad holds, behind the end. */
        private int signAt(int index) {
            return index >= 0 && index < length && index < signs.length ? signs[index] : 0;
        }

        private int number(int index) {
            return index >= 0 && index < numbersRead && index < numbers.length ? numbers[index] : 0;
        }

        private int firstFault() {
            at = 0;
            for (int orders = 0; orders < MOST_SIGNS && readOrder(); orders++) {
                if (at >= length) {
                    return NONE;
                }
                if (signAt(at) != ';') {
                    return at;
                }
                at++;
            }
            return at;
        }

        private void stepOverSemicolon() {
            if (signAt(at) == ';') {
                at++;
            }
        }

        /** What stands behind the letter of an order: d a digit, n a number, all else itself. */
        private static String formOf(int letter) {
            switch (letter) {
                case 'p': return "dd";
                case 's': return "d>d";
                case 'i': return "dd/d";
                case 'w': return "n.d";
                case 'f': return "n";
                case 'o': return "d";
                case 't': return "n";
                case 'a': return "d";
                default: return "";
            }
        }

        private boolean readOrder() {
            order = signAt(at);
            numbersRead = 0;
            String form = formOf(order);
            if (form.isEmpty()) {
                return false;
            }
            at++;
            for (int part = 0; part < form.length(); part++) {
                if (!readPart(form.charAt(part))) {
                    return false;
                }
            }
            return true;
        }

        private boolean readPart(char part) {
            if (part == 'd' || part == 'n') {
                return readNumber(part == 'n' ? 2 : 1);
            }
            if (signAt(at) != part) {
                return false;
            }
            at++;
            return true;
        }

        /** A 0 ends its number at once, for a number has no leading zeros. */
        private boolean readNumber(int mostDigits) {
            if (!isDigit(signAt(at))) {
                return false;
            }
            int value = signAt(at) - '0';
            at++;
            if (mostDigits > 1 && value > 0 && isDigit(signAt(at))) {
                value = 10 * value + signAt(at) - '0';
                at++;
            }
            addNumber(value);
            return true;
        }

        private void addNumber(int value) {
            if (numbersRead >= 0 && numbersRead < numbers.length) {
                numbers[numbersRead] = value;
                numbersRead++;
            }
        }

        private static boolean isDigit(int sign) {
            return sign >= '0' && sign <= '9';
        }
    }
}
