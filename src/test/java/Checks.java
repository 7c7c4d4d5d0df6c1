/** A count of right and wrong answers, and a line for each wrong one. */
class Checks {
    private String part = "";
    private int right = 0;
    private int wrong = 0;

    /** Names what the next answers belong to. */
    final void of(String name) {
        part = name;
    }

    final void due(String call, long got, long want) {
        if (got == want) {
            right++;
            return;
        }
        wrong++;
        System.out.println(part + ": " + call + " answered " + got + ", due is " + want);
    }

    final void holds(String what, boolean so) {
        if (so) {
            right++;
            return;
        }
        wrong++;
        System.out.println(part + ": not so: " + what);
    }

    final int answers() {
        return right + wrong;
    }

    void end() {
        System.out.println(right + " answers as due, " + wrong + " not as due");
        if (wrong != 0) {
            System.exit(1);
        }
    }
}
