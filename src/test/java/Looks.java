/** What can be seen of a state; two that look alike in all looks are the same for all later calls. */
final class Looks {
    /** As it is, behind one undo() to six, behind restore() of each slot, and behind carryOut(). */
    static final int NUMBER = 10;

    private Looks() {
    }

    /** One look at the state that some calls lead to, and one call more. */
    static String behind(Sentences.Start start, Sentences.Call call, int look) {
        Ways ways = new Ways();
        start.on(ways);
        call.on(ways);
        int answer = 0;
        for (int undone = 0; look <= 6 && undone < look; undone++) {
            answer = ways.undo();
        }
        if (look == 7 || look == 8) {
            answer = ways.restore(look - 7);
        }
        if (look == 9) {
            answer = ways.carryOut();
        }
        return answer + ": " + ways.fault() + ' ' + ways.count(13) + ' ' + ways.count(14) + ' ' + town(ways);
    }

    /** What a slot holds behind a call. */
    static String slot(Sentences.Start start, Sentences.Call call, int slot) {
        Ways ways = new Ways();
        start.on(ways);
        call.on(ways);
        return ways.restore(slot) < 0 ? "nothing" : town(ways);
    }

    /** All that is saved and undone, in one text. */
    static String town(Ways ways) {
        StringBuilder view = new StringBuilder();
        for (int what = 0; what <= 12; what++) {
            view.append(ways.count(what)).append(' ');
        }
        int persons = ways.count(1);
        for (int person = 0; person < persons; person++) {
            for (int what = 0; what <= 8; what++) {
                view.append(ways.of(person, what)).append(' ');
            }
        }
        int quarrels = ways.count(2);
        for (int quarrel = 0; quarrel < quarrels; quarrel++) {
            for (int what = 0; what <= 7; what++) {
                view.append(ways.quarrel(quarrel, what)).append(' ');
            }
            view.append(ways.opensIn(quarrel)).append(' ').append(ways.dueIn(quarrel)).append(' ');
        }
        for (int rank = 0; rank < 12 && ways.record(rank, 0) >= 0; rank++) {
            for (int what = 0; what <= 2; what++) {
                view.append(ways.record(rank, what)).append(' ');
            }
        }
        return view.toString();
    }
}
