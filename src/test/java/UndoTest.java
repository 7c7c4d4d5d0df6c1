import java.util.ArrayList;
import java.util.List;

/** Promises 27 to 29: undo, and saved states. */
public final class UndoTest {
    private static final Checks CHECKS = new Checks();

    private static void due(String call, long got, long want) {
        CHECKS.due(call, got, want);
    }

    private static QuarrelWays busyTown() {
        QuarrelWays ways = new QuarrelWays();
        Checks.carryOut(ways, "p94;p95;p96;p09;p08;s0>3;s1>4;i01/8;i12/9;t30;o2;a4");
        return ways;
    }

    private static void change(QuarrelWays ways, int which) {
        switch (which) {
            case 0: ways.set(QuarrelWays.PEACE, 7); break;
            case 1: ways.person(3, 4); break;
            case 2: ways.second(0, 2); break;
            case 3: ways.allow(2); break;
            case 4: ways.insult(2, 0, 3); break;
            case 5: ways.settle(0, 1); break;
            case 6: ways.allow(1); break;
            case 7: ways.fight(0); break;
            case 8: ways.swear(0); break;
            case 9: ways.pass(9); break;
            case 10: Checks.carryOut(ways, "p12;t5;a0"); break;
            default: ways.restore(0); break;
        }
    }

    /** Each kind of change is undone wholly. */
    private static void eachChange() {
        CHECKS.of("promise 27, each change");
        for (int which = 0; which < 12; which++) {
            QuarrelWays ways = busyTown();
            ways.save(0);
            ways.pass(1);
            if (which == 7) {
                ways.allow(1);
            }
            String before = Checks.view(ways);
            int undoable = ways.count(14);
            change(ways, which);
            CHECKS.holds("change " + which + " changes something", !before.equals(Checks.view(ways)));
            due("change " + which + ": count(14)", ways.count(14), undoable + 1);
            due("change " + which + ": undo()", ways.undo(), undoable);
            CHECKS.holds("change " + which + " is undone", before.equals(Checks.view(ways)));
        }
    }

    private static void history() {
        CHECKS.of("promise 27");
        QuarrelWays ways = new QuarrelWays();
        due("undo()", ways.undo(), -5);
        List<String> views = new ArrayList<>();
        for (int change = 0; change < 10; change++) {
            views.add(Checks.view(ways));
            ways.pass(change + 1);
            due("count(14)", ways.count(14), Math.min(6, change + 1));
        }
        for (int left = 5; left >= 0; left--) {
            due("undo()", ways.undo(), left);
            CHECKS.holds("the state before it", views.get(4 + left).equals(Checks.view(ways)));
            due("count(14)", ways.count(14), left);
        }
        due("undo() of none", ways.undo(), -5);
        due("count(0)", ways.count(0), 10);
        ways.pass(2);
        ways.pass(3);
        due("undo()", ways.undo(), 1);
        ways.pass(4);
        ways.pass(5);
        due("undo()", ways.undo(), 2);
        due("count(0)", ways.count(0), 16);
        due("undo()", ways.undo(), 1);
        due("count(0)", ways.count(0), 12);
        due("undo()", ways.undo(), 0);
        due("undo()", ways.undo(), -5);
        due("count(0)", ways.count(0), 10);
    }

    /** What is recorded: changes that change nothing too, but no errors and no calls that are no changes. */
    private static void recorded() {
        CHECKS.of("promise 27, what is recorded");
        QuarrelWays ways = new QuarrelWays();
        ways.set(QuarrelWays.COOL, 12);
        due("a setting as it was: count(14)", ways.count(14), 1);
        ways.person(10, 0);
        ways.pass(0);
        ways.undo();
        due("undo(): count(14)", ways.count(14), 0);
        ways.set(QuarrelWays.COOL, 49);
        ways.person(-1, 0);
        ways.second(0, 1);
        ways.allow(5);
        ways.insult(0, 1, 1);
        ways.settle(0, 0);
        ways.fight(0);
        ways.swear(0);
        ways.pass(100);
        ways.carryOut();
        ways.restore(0);
        ways.restore(2);
        ways.save(2);
        due("errors: count(14)", ways.count(14), 0);
        ways.put('a');
        ways.wipe();
        ways.put('a');
        ways.fault();
        ways.save(0);
        due("no changes: count(14)", ways.count(14), 0);
        ways.person(1, 1);
        due("undo()", ways.undo(), 0);
        due("the pad is not undone: count(13)", ways.count(13), 1);
        ways.person(1, 1);
        ways.save(1);
        ways.undo();
        due("the slots are not undone: restore(1)", ways.restore(1), 0);
        due("count(1)", ways.count(1), 1);
        for (int change = 0; change < 6; change++) {
            ways.pass(1);
        }
        ways.pass(0);
        ways.allow(9);
        for (int left = 5; left >= 0; left--) {
            due("errors drop nothing: undo()", ways.undo(), left);
        }
        due("count(0)", ways.count(0), 0);
        due("count(1)", ways.count(1), 1);
    }

    private static void saving() {
        CHECKS.of("promise 28");
        QuarrelWays ways = busyTown();
        int undoable = ways.count(14);
        Checks.write(ways, "p1");
        due("save(0)", ways.save(0), 2);
        due("save(-1)", ways.save(-1), -2);
        due("save(2)", ways.save(2), -2);
        due("save(least)", ways.save(Integer.MIN_VALUE), -2);
        due("save(most)", ways.save(Integer.MAX_VALUE), -2);
        due("count(14)", ways.count(14), undoable);
        due("count(13)", ways.count(13), 2);
        due("restore(1)", ways.restore(1), -5);
        String first = Checks.view(ways);
        ways.insult(2, 0, 4);
        due("save(1)", ways.save(1), 3);
        String next = Checks.view(ways);
        ways.pass(20);
        due("restore(0)", ways.restore(0), 2);
        CHECKS.holds("as saved in 0", first.equals(Checks.view(ways)));
        due("restore(1)", ways.restore(1), 3);
        CHECKS.holds("as saved in 1", next.equals(Checks.view(ways)));
        due("save(0) over what was there", ways.save(0), 3);
        ways.pass(1);
        due("restore(0)", ways.restore(0), 3);
        CHECKS.holds("as saved last in 0", next.equals(Checks.view(ways)));
        due("a new town: save(0)", new QuarrelWays().save(0), 0);
    }

    private static void restoring() {
        CHECKS.of("promise 29");
        QuarrelWays ways = busyTown();
        due("restore(0)", ways.restore(0), -5);
        due("restore(1)", ways.restore(1), -5);
        due("restore(2)", ways.restore(2), -2);
        due("restore(-1)", ways.restore(-1), -2);
        due("restore(most)", ways.restore(Integer.MAX_VALUE), -2);
        due("count(14)", ways.count(14), 1);
        ways.save(1);
        String saved = Checks.view(ways);
        ways.set(QuarrelWays.NOTICE, 1);
        ways.allow(1);
        ways.fight(0);
        ways.swear(3);
        Checks.write(ways, "t1");
        String later = Checks.view(ways);
        due("count(14)", ways.count(14), 5);
        due("restore(1)", ways.restore(1), 2);
        CHECKS.holds("as it was saved", saved.equals(Checks.view(ways)));
        due("the pad stays: count(13)", ways.count(13), 2);
        due("a change: count(14)", ways.count(14), 6);
        ways.settle(0, 1);
        CHECKS.holds("another state", !saved.equals(Checks.view(ways)));
        due("the slot keeps it: restore(1)", ways.restore(1), 2);
        CHECKS.holds("as it was saved", saved.equals(Checks.view(ways)));
        due("undo()", ways.undo(), 5);
        due("undo()", ways.undo(), 4);
        CHECKS.holds("as it was saved", saved.equals(Checks.view(ways)));
        due("undo()", ways.undo(), 3);
        CHECKS.holds("as it was before it was restored", later.equals(Checks.view(ways)));
        due("the slot stays: restore(1)", ways.restore(1), 2);
        CHECKS.holds("as it was saved", saved.equals(Checks.view(ways)));
        due("restore(0)", ways.restore(0), -5);
    }

    public static void main(String[] args) {
        eachChange();
        history();
        recorded();
        saving();
        restoring();
        CHECKS.end();
    }
}
