import java.util.ArrayDeque;
import java.util.ArrayList;
import java.util.Deque;
import java.util.List;
import java.util.regex.Matcher;
import java.util.regex.Pattern;

/**
 * The document once more, written as its words stand and without any care for speed: what comes
 * later is found by trying hour after hour, faults by trying each beginning of the text.
 */
final class PlainTown {
    private static final int NO_SUCH = -1, BAD_VALUE = -2, BAD_TEXT = -3, TOO_MANY = -4, NOT_POSSIBLE = -5, NONE = -6;
    private static final String NUMBER = "(0|[1-9][0-9]?)";
    private static final String ORDER = "(p[0-9][0-9]|s[0-9]>[0-9]|i[0-9][0-9]/[0-9]|w" + NUMBER + "\\.[0-9]|f" + NUMBER
        + "|o[0-9]|t" + NUMBER + "|a[0-9])";
    private static final Pattern TEXT = Pattern.compile(ORDER + "(;" + ORDER + ")*");

    private static final class Person {
        int pride;
        int tact;
        Person second;
        int oath;
    }

    private static final class Quarrel {
        Person offender;
        Person offended;
        int rank;
        int came;
        int state = 0;
        int way = NONE;
        int settled;
        Person winner;
    }

    private static final class State {
        int hour = 0;
        int[] settings = {12, 24, 72, 100};
        boolean[] allowed = {true, true, true, true, true};
        List<Person> persons = new ArrayList<>();
        List<Quarrel> quarrels = new ArrayList<>();
        /** The latest one last. */
        List<int[]> events = new ArrayList<>();

        State copy() {
            State copy = new State();
            copy.hour = hour;
            copy.settings = settings.clone();
            copy.allowed = allowed.clone();
            for (int i = 0; i < persons.size(); i++) {
                copy.persons.add(new Person());
            }
            for (int i = 0; i < persons.size(); i++) {
                Person from = persons.get(i);
                Person to = copy.persons.get(i);
                to.pride = from.pride;
                to.tact = from.tact;
                to.oath = from.oath;
                to.second = copy.same(from.second, this);
            }
            for (Quarrel from : quarrels) {
                Quarrel to = new Quarrel();
                to.offender = copy.same(from.offender, this);
                to.offended = copy.same(from.offended, this);
                to.rank = from.rank;
                to.came = from.came;
                to.state = from.state;
                to.way = from.way;
                to.settled = from.settled;
                to.winner = copy.same(from.winner, this);
                copy.quarrels.add(to);
            }
            copy.events.addAll(events);
            return copy;
        }

        Person same(Person person, State other) {
            return person == null ? null : persons.get(other.persons.indexOf(person));
        }
    }

    private State now = new State();
    private final Deque<State> history = new ArrayDeque<>();
    private final State[] slots = new State[2];
    private String pad = "";

    private static boolean within(int value, int low, int high) {
        return low <= value && value <= high;
    }

    private boolean noPerson(int person) {
        return !within(person, 0, now.persons.size() - 1);
    }

    private boolean noQuarrel(int quarrel) {
        return !within(quarrel, 0, now.quarrels.size() - 1);
    }

    private static boolean error(int answer) {
        return within(answer, NOT_POSSIBLE, NO_SUCH);
    }

    private void event(int kind, int about) {
        now.events.add(new int[] {kind, now.hour, about});
    }

    private int set(boolean[] members) {
        int set = 0;
        for (int i = 0; i < members.length; i++) {
            set += members[i] ? 1 << i : 0;
        }
        return set;
    }

    private boolean together(Quarrel quarrel, Person one, Person other) {
        return List.of(quarrel.offender, quarrel.offended).containsAll(List.of(one, other));
    }

    private boolean wayIsOpen(int way, Quarrel quarrel, int hour) {
        if (quarrel.state != 0 || !now.allowed[way]) {
            return false;
        }
        Person a = quarrel.offender;
        Person b = quarrel.offended;
        switch (way) {
            case 0:
                return a.pride + quarrel.rank < 10;
            case 1:
                if (a.second == null || b.second == null) {
                    return false;
                }
                if (List.of(a, b).contains(a.second) || List.of(a, b).contains(b.second)) {
                    return false;
                }
                return a.second != b.second && a.second.tact + b.second.tact >= quarrel.rank + quarrel.rank;
            case 2:
                return hour - quarrel.came >= now.settings[0] * quarrel.rank;
            case 3:
                return a.oath > hour || b.oath > hour;
            default:
                for (Quarrel other : now.quarrels) {
                    if (other != quarrel && other.state == 1 && together(other, a, b) && hour - other.settled <= now.settings[3]) {
                        return true;
                    }
                }
                return false;
        }
    }

    private int ways(Quarrel quarrel, int hour) {
        boolean[] open = new boolean[5];
        for (int way = 0; way < 5; way++) {
            open[way] = wayIsOpen(way, quarrel, hour);
        }
        return set(open);
    }

    private boolean due(Quarrel quarrel, int hour) {
        return quarrel.state == 0 && ways(quarrel, hour) == 0 && hour - quarrel.came >= now.settings[1];
    }

    private Person winner(Quarrel quarrel) {
        int offender = quarrel.offender.tact + quarrel.offender.tact + quarrel.offender.pride;
        int offended = quarrel.offended.tact + quarrel.offended.tact + quarrel.offended.pride;
        return offended >= offender ? quarrel.offended : quarrel.offender;
    }

    private int howMany(int state) {
        return (int) now.quarrels.stream().filter(quarrel -> quarrel.state == state).count();
    }

    // ---- changes, without the history

    private int doSet(int setting, int value) {
        int[][] ranges = {{1, 48}, {0, 99}, {1, 200}, {0, 400}};
        if (!within(setting, 0, 3) || !within(value, ranges[setting][0], ranges[setting][1])) {
            return BAD_VALUE;
        }
        int previous = now.settings[setting];
        now.settings[setting] = value;
        return previous;
    }

    private int doPerson(int pride, int tact) {
        if (!within(pride, 0, 9) || !within(tact, 0, 9)) {
            return BAD_VALUE;
        }
        if (now.persons.size() == 10) {
            return TOO_MANY;
        }
        Person person = new Person();
        person.pride = pride;
        person.tact = tact;
        now.persons.add(person);
        return now.persons.size() - 1;
    }

    private int doSecond(int person, int second) {
        if (noPerson(person) || noPerson(second)) {
            return NO_SUCH;
        }
        if (person == second) {
            return BAD_VALUE;
        }
        int previous = secondOf(now.persons.get(person));
        now.persons.get(person).second = now.persons.get(second);
        return previous;
    }

    private int secondOf(Person person) {
        return person.second == null ? NONE : now.persons.indexOf(person.second);
    }

    private int doAllow(int way) {
        if (!within(way, 0, 4)) {
            return NO_SUCH;
        }
        now.allowed[way] = !now.allowed[way];
        return set(now.allowed);
    }

    private int insultError(int offender, int offended, int rank) {
        if (noPerson(offender) || noPerson(offended)) {
            return NO_SUCH;
        }
        return offender == offended || !within(rank, 1, 9) ? BAD_VALUE : 0;
    }

    private Quarrel quarrelOf(int offender, int offended, int rank) {
        Quarrel quarrel = new Quarrel();
        quarrel.offender = now.persons.get(offender);
        quarrel.offended = now.persons.get(offended);
        quarrel.rank = rank;
        quarrel.came = now.hour;
        return quarrel;
    }

    private int doInsult(int offender, int offended, int rank) {
        int error = insultError(offender, offended, rank);
        if (error != 0) {
            return error;
        }
        Quarrel quarrel = quarrelOf(offender, offended, rank);
        for (Quarrel other : now.quarrels) {
            if (other.state == 0 && together(other, quarrel.offender, quarrel.offended)) {
                return NOT_POSSIBLE;
            }
        }
        if (now.quarrels.size() == 12) {
            return TOO_MANY;
        }
        now.quarrels.add(quarrel);
        event(0, now.quarrels.size() - 1);
        return now.quarrels.size() - 1;
    }

    private int doSettle(int number, int way) {
        if (noQuarrel(number) || !within(way, 0, 4)) {
            return NO_SUCH;
        }
        Quarrel quarrel = now.quarrels.get(number);
        if (!wayIsOpen(way, quarrel, now.hour)) {
            return NOT_POSSIBLE;
        }
        if (way == 0 && quarrel.offender.pride > 0) {
            quarrel.offender.pride--;
        }
        if (way == 1) {
            for (Person second : List.of(quarrel.offender.second, quarrel.offended.second)) {
                second.tact += second.tact < 9 ? 1 : 0;
            }
        }
        quarrel.state = 1;
        quarrel.way = way;
        quarrel.settled = now.hour;
        event(1, number);
        return howMany(0);
    }

    private int doFight(int number) {
        if (noQuarrel(number)) {
            return NO_SUCH;
        }
        Quarrel quarrel = now.quarrels.get(number);
        if (!due(quarrel, now.hour)) {
            return NOT_POSSIBLE;
        }
        quarrel.winner = winner(quarrel);
        quarrel.state = 2;
        for (Person person : List.of(quarrel.offender, quarrel.offended)) {
            person.pride = person == quarrel.winner ? Math.min(person.pride + 1, 9) : Math.max(person.pride - 2, 0);
            person.oath = Math.max(person.oath, now.hour + now.settings[2]);
        }
        event(2, number);
        return now.persons.indexOf(quarrel.winner);
    }

    private int doSwear(int number) {
        if (noPerson(number)) {
            return NO_SUCH;
        }
        Person person = now.persons.get(number);
        if (person.oath > now.hour) {
            return NOT_POSSIBLE;
        }
        person.oath = now.hour + now.settings[2];
        event(3, number);
        return person.oath;
    }

    private int doPass(int hours) {
        if (!within(hours, 1, 99)) {
            return BAD_VALUE;
        }
        if (now.hour + hours > 9999) {
            return NOT_POSSIBLE;
        }
        now.hour += hours;
        return Integer.bitCount(count(4));
    }

    private int doRestore(int slot) {
        if (!within(slot, 0, 1)) {
            return BAD_VALUE;
        }
        if (slots[slot] == null) {
            return NOT_POSSIBLE;
        }
        now = slots[slot].copy();
        return now.quarrels.size();
    }

    private int doOrder(String order) {
        int first = order.charAt(1) - '0';
        switch (order.charAt(0)) {
            case 'p': return doPerson(first, order.charAt(2) - '0');
            case 's': return doSecond(first, order.charAt(3) - '0');
            case 'i': return doInsult(first, order.charAt(2) - '0', order.charAt(4) - '0');
            case 'w':
                String[] parts = order.substring(1).split("\\.");
                return doSettle(Integer.parseInt(parts[0]), Integer.parseInt(parts[1]));
            case 'f': return doFight(Integer.parseInt(order.substring(1)));
            case 'o': return doSwear(first);
            case 't': return doPass(Integer.parseInt(order.substring(1)));
            default: return doAllow(first);
        }
    }

    private int doCarryOut() {
        if (fault() != NONE) {
            return BAD_TEXT;
        }
        int done = 0;
        for (String order : pad.split(";")) {
            if (error(doOrder(order))) {
                break;
            }
            done++;
        }
        pad = "";
        return done;
    }

    // ---- the face

    private interface Change {
        int make();
    }

    private int change(Change change) {
        State before = now.copy();
        int answer = change.make();
        if (!error(answer)) {
            history.addLast(before);
            if (history.size() > 6) {
                history.removeFirst();
            }
        }
        return answer;
    }

    int set(int setting, int value) {
        return change(() -> doSet(setting, value));
    }

    int person(int pride, int tact) {
        return change(() -> doPerson(pride, tact));
    }

    int second(int person, int second) {
        return change(() -> doSecond(person, second));
    }

    int allow(int way) {
        return change(() -> doAllow(way));
    }

    int insult(int offender, int offended, int rank) {
        return change(() -> doInsult(offender, offended, rank));
    }

    int settle(int quarrel, int way) {
        return change(() -> doSettle(quarrel, way));
    }

    int fight(int quarrel) {
        return change(() -> doFight(quarrel));
    }

    int swear(int person) {
        return change(() -> doSwear(person));
    }

    int pass(int hours) {
        return change(() -> doPass(hours));
    }

    int carryOut() {
        return change(this::doCarryOut);
    }

    int restore(int slot) {
        return change(() -> doRestore(slot));
    }

    int undo() {
        if (history.isEmpty()) {
            return NOT_POSSIBLE;
        }
        now = history.removeLast();
        return history.size();
    }

    int save(int slot) {
        if (!within(slot, 0, 1)) {
            return BAD_VALUE;
        }
        slots[slot] = now.copy();
        return now.quarrels.size();
    }

    int of(int number, int what) {
        if (noPerson(number)) {
            return NO_SUCH;
        }
        Person person = now.persons.get(number);
        int gave = 0;
        int got = 0;
        int won = 0;
        int fought = 0;
        for (Quarrel quarrel : now.quarrels) {
            gave += quarrel.offender == person ? 1 : 0;
            got += quarrel.offended == person ? 1 : 0;
            won += quarrel.winner == person ? 1 : 0;
            fought += quarrel.state == 2 && (quarrel.offender == person || quarrel.offended == person) ? 1 : 0;
        }
        boolean[] seconded = new boolean[10];
        for (Person other : now.persons) {
            seconded[now.persons.indexOf(other)] = other.second == person;
        }
        int[] answers = {person.pride, person.tact, secondOf(person), Math.max(0, person.oath - now.hour), gave, got, won,
            fought, set(seconded)};
        return within(what, 0, 8) ? answers[what] : BAD_VALUE;
    }

    int quarrel(int number, int what) {
        if (noQuarrel(number)) {
            return NO_SUCH;
        }
        Quarrel quarrel = now.quarrels.get(number);
        int winner = quarrel.winner == null ? NONE : now.persons.indexOf(quarrel.winner);
        int[] answers = {now.persons.indexOf(quarrel.offender), now.persons.indexOf(quarrel.offended), quarrel.rank,
            now.hour - quarrel.came, quarrel.state, quarrel.way, winner, ways(quarrel, now.hour)};
        return within(what, 0, 7) ? answers[what] : BAD_VALUE;
    }

    int record(int rank, int what) {
        if (!within(rank, 0, Math.min(now.events.size(), 12) - 1)) {
            return NO_SUCH;
        }
        return within(what, 0, 2) ? now.events.get(now.events.size() - 1 - rank)[what] : BAD_VALUE;
    }

    int pressing(int rank) {
        List<Quarrel> open = new ArrayList<>(now.quarrels);
        open.removeIf(quarrel -> quarrel.state != 0);
        open.sort((one, other) -> Integer.compare(pressure(other), pressure(one)));
        return within(rank, 0, open.size() - 1) ? now.quarrels.indexOf(open.get(rank)) : NO_SUCH;
    }

    private int pressure(Quarrel quarrel) {
        return (now.hour - quarrel.came + 1) * quarrel.rank;
    }

    int insults(int rank) {
        return within(rank, 1, 9) ? (int) now.quarrels.stream().filter(quarrel -> quarrel.rank >= rank).count() : BAD_VALUE;
    }

    int count(int what) {
        boolean[] open = new boolean[12];
        boolean[] due = new boolean[12];
        boolean[] sworn = new boolean[10];
        for (int i = 0; i < now.quarrels.size(); i++) {
            open[i] = now.quarrels.get(i).state == 0;
            due[i] = due(now.quarrels.get(i), now.hour);
        }
        for (int i = 0; i < now.persons.size(); i++) {
            sworn[i] = now.persons.get(i).oath > now.hour;
        }
        int[] answers = {now.hour, now.persons.size(), now.quarrels.size(), set(open), set(due), howMany(1), howMany(2),
            set(now.allowed), set(sworn), now.settings[0], now.settings[1], now.settings[2], now.settings[3], pad.length(),
            history.size()};
        return within(what, 0, 14) ? answers[what] : BAD_VALUE;
    }

    int why(int number) {
        if (noQuarrel(number)) {
            return NO_SUCH;
        }
        Quarrel quarrel = now.quarrels.get(number);
        if (due(quarrel, now.hour)) {
            return 0;
        }
        return quarrel.state != 0 ? 1 : ways(quarrel, now.hour) != 0 ? 2 : 3;
    }

    int firstWay(int number) {
        if (noQuarrel(number)) {
            return NO_SUCH;
        }
        for (int way = 0; way < 5; way++) {
            if (wayIsOpen(way, now.quarrels.get(number), now.hour)) {
                return way;
            }
        }
        return NONE;
    }

    private int firstHour(int number, boolean ofDuel) {
        if (noQuarrel(number)) {
            return NO_SUCH;
        }
        Quarrel quarrel = now.quarrels.get(number);
        if (quarrel.state != 0) {
            return NOT_POSSIBLE;
        }
        for (int hours = 0; hours <= 500; hours++) {
            int then = now.hour + hours;
            if (ofDuel ? due(quarrel, then) : ways(quarrel, then) != 0) {
                return hours;
            }
        }
        return NONE;
    }

    int opensIn(int quarrel) {
        return firstHour(quarrel, false);
    }

    int dueIn(int quarrel) {
        return firstHour(quarrel, true);
    }

    int ifInsulted(int offender, int offended, int rank) {
        int error = insultError(offender, offended, rank);
        return error != 0 ? error : ways(quarrelOf(offender, offended, rank), now.hour);
    }

    int ifFought(int quarrel) {
        return noQuarrel(quarrel) ? NO_SUCH : now.persons.indexOf(winner(now.quarrels.get(quarrel)));
    }

    int put(long characters) {
        StringBuilder text = new StringBuilder();
        boolean ended = false;
        for (int bits = 0; bits < 64; bits += 8) {
            int code = (int) (characters >>> bits & 255);
            if (code == 0) {
                ended = true;
            } else if (ended || !within(code, 33, 126)) {
                return BAD_VALUE;
            } else {
                text.insert(0, (char) code);
            }
        }
        if (text.length() == 0) {
            return BAD_VALUE;
        }
        if (pad.length() + text.length() > 80) {
            return TOO_MANY;
        }
        pad += text;
        return pad.length();
    }

    int wipe() {
        int length = pad.length();
        pad = "";
        return length;
    }

    int fault() {
        for (int length = 1; length <= pad.length(); length++) {
            Matcher matcher = TEXT.matcher(pad.substring(0, length));
            if (!matcher.matches() && !matcher.hitEnd()) {
                return length - 1;
            }
        }
        return TEXT.matcher(pad).matches() ? NONE : pad.length();
    }
}
