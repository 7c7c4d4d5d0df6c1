import java.util.ArrayList;
import java.util.List;

/** Promises 27 to 29: undo, and saved states. */
public final class UndoTest {
    private static final int BAD_VALUE = -2, NOT_POSSIBLE = -5;
    private static final int LEAST = Integer.MIN_VALUE, MOST = Integer.MAX_VALUE;
    private static final String UNDO = "Promise 27: undo", SAVE = "Promise 28: save", RESTORE = "Promise 29: restore";
    private static final Sentences DOC = new Sentences(UNDO, SAVE, RESTORE);

    /** One call of each method that is a change, none of which is refused by the busy town or the one of few changes. */
    private static final Sentences.Call[] CHANGES = {
        x -> x.set(3, 7), x -> x.person(3, 4), x -> x.second(2, 4), x -> x.allow(2), x -> x.insult(0, 1, 3), x -> x.settle(2, 3),
        x -> x.fight(3), x -> x.swear(4), x -> x.pass(9), x -> x.carryOut(), x -> x.restore(0)};

    /** One change alone has been made, but there are all kinds of quarrels and an oath. */
    private static void few(Ways ways) {
        ways.save(0);
        ways.carryOut("p94;p94;p94;p94;p94;i12/9;i13/9;i02/9;i34/9;t24;o2");
        ways.write("a0;t5");
    }

    private static Ways busy() {
        Ways ways = new Ways();
        Towns.busy(ways);
        return ways;
    }

    // ---- Promise 27

    private static void undoing() {
        DOC.of(UNDO, "Undoes the latest change:");
        Ways ways = new Ways();
        ways.pass(5);
        ways.pass(7);
        ways.undo();
        DOC.due("count(0)", ways.count(0), 5);
        ways.undo();
        DOC.due("count(0)", ways.count(0), 0);
        DOC.of(UNDO, "everything except the pad, the slots and the history is as it was before it.");
        for (int change = 0; change < CHANGES.length; change++) {
            Ways called = busy();
            String before = Looks.town(called);
            CHANGES[change].on(called);
            DOC.holds("change " + change + " changes something", !before.equals(Looks.town(called)));
            int pad = called.count(13);
            called.undo();
            DOC.holds("change " + change + " is undone", before.equals(Looks.town(called)));
            DOC.due("change " + change + ": count(13)", called.count(13), pad);
        }
        Ways rest = busy();
        rest.pass(1);
        rest.put(';');
        rest.save(1);
        rest.undo();
        DOC.due("the pad stays: count(13)", rest.count(13), 6);
        DOC.due("the pad stays: fault()", rest.fault(), 6);
        DOC.due("the slot stays: restore(1)", rest.restore(1), 4);
        DOC.due("the slot stays: count(0)", rest.count(0), 79);
    }

    private static void sixStates() {
        DOC.of(UNDO, "A history of at most 6 states is kept:");
        Ways ways = new Ways();
        List<String> towns = new ArrayList<>();
        for (int change = 0; change < 6; change++) {
            towns.add(Looks.town(ways));
            ways.pass(change + 1);
            DOC.due("count(14)", ways.count(14), change + 1);
        }
        for (int left = 5; left >= 0; left--) {
            DOC.due("undo()", ways.undo(), left);
            DOC.holds("the state before it", towns.get(left).equals(Looks.town(ways)));
        }
        DOC.due("none is left: undo()", ways.undo(), NOT_POSSIBLE);
        DOC.of(UNDO, "when one more is recorded, the oldest one is dropped.");
        for (int changes = 7; changes <= 20; changes++) {
            Ways more = new Ways();
            for (int change = 0; change < changes; change++) {
                more.pass(1);
            }
            DOC.due(changes + " changes: count(14)", more.count(14), 6);
            for (int left = 5; left >= 0; left--) {
                DOC.due(changes + " changes: undo()", more.undo(), left);
                DOC.due("count(0)", more.count(0), changes - 6 + left);
            }
            DOC.due("the oldest ones are dropped: undo()", more.undo(), NOT_POSSIBLE);
            DOC.due("count(0)", more.count(0), changes - 6);
        }
        Ways turns = new Ways();
        for (int turn = 0; turn < 12; turn++) {
            turns.pass(1);
            turns.pass(2);
            turns.undo();
            DOC.due("two changes and an undo(): count(14)", turns.count(14), Math.min(6, turn + 1) - (turn >= 5 ? 1 : 0));
            DOC.due("count(0)", turns.count(0), turn + 1);
        }
        for (int left = 4; left >= 0; left--) {
            DOC.due("undo()", turns.undo(), left);
            DOC.due("count(0)", turns.count(0), 7 + left);
        }
    }

    private static void recorded() {
        DOC.of(UNDO, "each method that is a change, and returns no error, records the state before it (also if nothing is different then);");
        for (int change = 0; change < CHANGES.length; change++) {
            DOC.records(UndoTest::few, "change " + change + " behind one", CHANGES[change]);
            DOC.records(Towns::busy, "change " + change + " behind six and more", CHANGES[change]);
        }
        Ways same = Towns.proud(2);
        same.second(0, 1);
        DOC.due("a first second, NONE: count(14)", same.count(14), 3);
        same.second(0, 1);
        DOC.due("the same second: count(14)", same.count(14), 4);
        same.set(0, 12);
        DOC.due("the same value: count(14)", same.count(14), 5);
        same.save(0);
        same.restore(0);
        DOC.due("the same state: count(14)", same.count(14), 6);
        Ways none = new Ways();
        none.carryOut("o0");
        DOC.due("a text that does nothing: count(14)", none.count(14), 1);
        DOC.due("undo()", none.undo(), 0);
        DOC.due("undo() is no change: count(14)", none.count(14), 0);
    }

    /** A call that is refused records nothing, whether the history is full or not; nor does one that is no change. */
    private static void notRecorded() {
        DOC.of(UNDO, "each method that is a change, and returns no error, records the state before it (also if nothing is different then);");
        Sentences.Call[] refused = {
            x -> x.set(0, 49), x -> x.person(-1, 0), x -> x.second(0, 5), x -> x.allow(5), x -> x.insult(0, 1, 10), x -> x.settle(0, 0),
            x -> x.fight(0), x -> x.swear(5), x -> x.pass(0), x -> x.restore(1), x -> x.save(2), x -> x.put(0)};
        for (int call = 0; call < refused.length; call++) {
            Ways ways = busy();
            DOC.holds("call " + call + " is refused", refused[call].on(ways) < 0);
            ways.undo();
            int undoable = ways.count(14);
            String before = Looks.town(ways);
            DOC.holds("call " + call + " is refused", refused[call].on(ways) < 0);
            DOC.due("call " + call + ": count(14)", ways.count(14), undoable);
            ways.person(9, 9);
            ways.undo();
            DOC.holds("call " + call + " leaves no state", before.equals(Looks.town(ways)));
        }
        Ways ways = new Ways();
        ways.carryOut();
        ways.put('a');
        ways.carryOut();
        ways.fault();
        ways.wipe();
        ways.save(0);
        ways.count(0);
        DOC.due("calls that are no changes: count(14)", ways.count(14), 0);
        DOC.due("undo()", ways.undo(), NOT_POSSIBLE);
    }

    private static void ordersRecordNothing() {
        DOC.of(UNDO, "An order of a text records nothing by itself.");
        Ways ways = new Ways();
        ways.pass(1);
        ways.carryOut("t2;t3;t4;t5;t6;t7;t8;t9");
        DOC.due("count(14)", ways.count(14), 2);
        DOC.due("undo()", ways.undo(), 1);
        DOC.due("count(0)", ways.count(0), 1);
        DOC.due("undo()", ways.undo(), 0);
        DOC.due("count(0)", ways.count(0), 0);
        Ways busy = busy();
        busy.wipe();
        busy.carryOut("p12;s2>4;i01/5;w2.3;f3;o0;t5;a0");
        DOC.due("one of each kind: count(14)", busy.count(14), 6);
        busy.undo();
        DOC.due("one of each kind: count(14)", busy.count(14), 5);
        DOC.due("undo()", busy.undo(), 4);
        DOC.due("the change before the text is undone: count(0)", busy.count(0), 54);
    }

    private static void howManyAreLeft() {
        DOC.of(UNDO, "Returns how many changes can be undone then;");
        Ways ways = busy();
        for (int left = 5; left >= 0; left--) {
            DOC.due("undo()", ways.undo(), left);
            DOC.due("count(14)", ways.count(14), left);
        }
        DOC.of(UNDO, "NOT_POSSIBLE if there is none.");
        DOC.keeps(x -> x.write("t1"), "undo() of a new object", x -> x.undo(), NOT_POSSIBLE);
        DOC.keeps(x -> {
            Towns.busy(x);
            for (int undone = 0; undone < 6; undone++) {
                x.undo();
            }
        }, "the seventh undo()", x -> x.undo(), NOT_POSSIBLE);
        DOC.keeps(x -> {
            x.pass(1);
            x.undo();
        }, "undo() again", x -> x.undo(), NOT_POSSIBLE);
    }

    // ---- Promise 28

    private static void saving() {
        DOC.of(SAVE, "Saves everything except the pad, the history and the slots in a slot,");
        for (int slot = 0; slot < 2; slot++) {
            Ways ways = busy();
            String saved = Looks.town(ways);
            ways.save(slot);
            DOC.holds("it changes nothing", saved.equals(Looks.town(ways)));
            for (Sentences.Call change : CHANGES) {
                change.on(ways);
            }
            ways.write("x");
            ways.restore(slot);
            DOC.holds("slot " + slot + " holds all", saved.equals(Looks.town(ways)));
            DOC.due("the pad is not saved: count(13)", ways.count(13), 1);
            DOC.due("nor the history: count(14)", ways.count(14), 6);
        }
        Ways few = new Ways();
        few.save(0);
        few.pass(1);
        few.pass(1);
        few.restore(0);
        DOC.due("the history goes on: count(14)", few.count(14), 3);
        Ways slots = new Ways();
        slots.save(0);
        slots.pass(1);
        slots.save(1);
        slots.restore(0);
        DOC.due("the slots are not saved: restore(1)", slots.restore(1), 0);
        DOC.due("count(0)", slots.count(0), 1);
        DOC.of(SAVE, "and overwrites what was saved there.");
        Ways over = new Ways();
        over.save(0);
        over.save(1);
        over.pass(1);
        over.save(0);
        over.pass(1);
        over.restore(0);
        DOC.due("the later state in 0: count(0)", over.count(0), 1);
        over.restore(1);
        DOC.due("the other slot stays: count(0)", over.count(0), 0);
        over.save(0);
        over.pass(3);
        over.restore(0);
        DOC.due("overwritten again: count(0)", over.count(0), 0);
    }

    private static void savingAnswers() {
        DOC.of(SAVE, "`slot`: 0 or 1");
        DOC.due("save(0)", busy().save(0), 4);
        DOC.due("save(1)", busy().save(1), 4);
        DOC.of(SAVE, "Returns how many quarrels there have been;");
        DOC.due("of a new object: save(0)", new Ways().save(0), 0);
        DOC.due("settled and fought ones too: save(1)", busy().save(1), 4);
        Ways full = new Ways();
        Towns.full(full);
        DOC.due("save(0)", full.save(0), 12);
        Ways ways = busy();
        int undoable = ways.count(14);
        ways.save(1);
        DOC.due("it is no change: count(14)", ways.count(14), undoable);
        DOC.of(SAVE, "BAD_VALUE if there is no such slot.");
        for (int slot : new int[] {-1, 2, 3, LEAST, MOST}) {
            DOC.keeps(Towns::busy, "save(" + slot + ")", x -> x.save(slot), BAD_VALUE);
        }
    }

    // ---- Promise 29

    private static void restoring() {
        DOC.of(RESTORE, "Restores what was saved last in a slot, which keeps it.");
        Ways ways = busy();
        ways.save(1);
        String saved = Looks.town(ways);
        ways.settle(2, 3);
        ways.restore(1);
        DOC.holds("as it was saved", saved.equals(Looks.town(ways)));
        ways.fight(3);
        ways.restore(1);
        DOC.holds("the slot keeps it", saved.equals(Looks.town(ways)));
        ways.pass(9);
        ways.save(1);
        ways.allow(0);
        ways.restore(1);
        DOC.due("what was saved last: count(0)", ways.count(0), 87);
        DOC.due("count(7)", ways.count(7), 31);
        DOC.of(RESTORE, "This is a change.");
        DOC.records(Towns::busy, "restore(0)", x -> x.restore(0));
        DOC.records(Towns::full, "restore(1)", x -> x.restore(1));
        DOC.records(x -> x.save(1), "restore(1) of the same state", x -> x.restore(1));
    }

    private static void restoringAnswers() {
        DOC.of(RESTORE, "`slot`: 0 or 1");
        for (int slot = 0; slot < 2; slot++) {
            Ways ways = new Ways();
            ways.save(slot);
            DOC.due("restore(" + slot + ")", ways.restore(slot), 0);
            DOC.due("the other one", ways.restore(1 - slot), NOT_POSSIBLE);
        }
        DOC.of(RESTORE, "Returns how many quarrels there have been then;");
        DOC.due("restore(0)", busy().restore(0), 2);
        Ways full = new Ways();
        Towns.full(full);
        DOC.due("restore(1)", full.restore(1), 12);
        Ways empty = new Ways();
        empty.save(0);
        Towns.full(empty);
        DOC.due("restore(0) of none", empty.restore(0), 0);
        DOC.of(RESTORE, "BAD_VALUE if there is no such slot;");
        for (int slot : new int[] {-1, 2, 3, LEAST, MOST}) {
            DOC.keeps(Towns::busy, "restore(" + slot + ")", x -> x.restore(slot), BAD_VALUE);
        }
        DOC.of(RESTORE, "NOT_POSSIBLE if nothing was saved in it.");
        DOC.keeps(Towns::busy, "restore(1)", x -> x.restore(1), NOT_POSSIBLE);
        DOC.keeps(Towns::full, "restore(0)", x -> x.restore(0), NOT_POSSIBLE);
        DOC.keeps(x -> x.write("t1"), "restore(0) of a new object", x -> x.restore(0), NOT_POSSIBLE);
        DOC.keeps(x -> x.write("t1"), "restore(1) of a new object", x -> x.restore(1), NOT_POSSIBLE);
    }

    public static void main(String[] args) {
        undoing();
        sixStates();
        recorded();
        notRecorded();
        ordersRecordNothing();
        howManyAreLeft();
        saving();
        savingAnswers();
        restoring();
        restoringAnswers();
        DOC.end();
    }
}
