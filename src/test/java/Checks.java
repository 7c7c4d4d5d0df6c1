/** What the tests share: a count of wrong answers, and texts given as put() takes them. */
final class Checks {
    private int right = 0;
    private int wrong = 0;
    private String part = "";

    /** Names what the next answers belong to, for the lines that tell of wrong ones. */
    void of(String name) {
        part = name;
    }

    void due(String call, long got, long want) {
        if (got == want) {
            right++;
            return;
        }
        wrong++;
        System.out.println(part + ": " + call + " answered " + got + ", due is " + want);
    }

    void holds(String what, boolean so) {
        due(what, so ? 1 : 0, 1);
    }

    void end() {
        System.out.println(right + " answers as due, " + wrong + " not as due");
        if (wrong != 0) {
            System.exit(1);
        }
    }

    static long packed(String text) {
        long number = 0;
        for (int i = 0; i < text.length(); i++) {
            number = number << 8 | text.charAt(i);
        }
        return number;
    }

    /** Appends a text of any length to the pad; returns what the last put() answered. */
    static int write(QuarrelWays ways, String text) {
        int answer = 0;
        for (int from = 0; from < text.length(); from += 8) {
            answer = ways.put(packed(text.substring(from, Math.min(text.length(), from + 8))));
        }
        return answer;
    }

    static int carryOut(QuarrelWays ways, String text) {
        write(ways, text);
        return ways.carryOut();
    }

    /** All that the questions tell of a town, in one text: two states that differ in it differ. */
    static String view(QuarrelWays ways) {
        StringBuilder view = new StringBuilder();
        for (int what = 0; what <= 12; what++) {
            view.append(ways.count(what)).append(' ');
        }
        for (int person = 0; person < ways.count(1); person++) {
            for (int what = 0; what <= 8; what++) {
                view.append(ways.of(person, what)).append(' ');
            }
        }
        for (int quarrel = 0; quarrel < ways.count(2); quarrel++) {
            for (int what = 0; what <= 7; what++) {
                view.append(ways.quarrel(quarrel, what)).append(' ');
            }
        }
        for (int rank = 0; rank < 12 && ways.record(rank, 0) >= 0; rank++) {
            for (int what = 0; what <= 2; what++) {
                view.append(ways.record(rank, what)).append(' ');
            }
        }
        return view.toString();
    }
}
