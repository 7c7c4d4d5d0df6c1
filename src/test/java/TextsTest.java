/** The texts, and promises 23 to 26: the pad. */
public final class TextsTest {
    private static final int BAD_VALUE = -2, BAD_TEXT = -3, TOO_MANY = -4, NOT_POSSIBLE = -5, NONE = -6;
    private static final String TEXTS = "Texts", PUT = "Promise 23: put", WIPE = "Promise 24: wipe", FAULT = "Promise 25: fault",
        CARRY_OUT = "Promise 26: carryOut";
    private static final Sentences DOC = new Sentences(TEXTS, PUT, WIPE, FAULT, CARRY_OUT);

    private static final String DIGITS = "0123456789";
    private static final String ORDERS = "psiwfota";
    /** What may stand behind each beginning; a point for the end, behind which the text may stop. */
    private static final String[][] NEXT = {
        {"", ORDERS},
        {"p", DIGITS}, {"p0", DIGITS}, {"p9", DIGITS}, {"p90", "$;"}, {"p09", "$;"},
        {"s", DIGITS}, {"s0", ">"}, {"s9", ">"}, {"s9>", DIGITS}, {"s0>0", "$;"}, {"s0>9", "$;"},
        {"i", DIGITS}, {"i0", DIGITS}, {"i9", DIGITS}, {"i90", "/"}, {"i09", "/"}, {"i09/", DIGITS}, {"i00/0", "$;"}, {"i00/9", "$;"},
        {"w", DIGITS}, {"w0", "."}, {"w1", DIGITS + "."}, {"w9", DIGITS + "."}, {"w10", "."}, {"w99", "."}, {"w0.", DIGITS},
        {"w99.", DIGITS}, {"w0.0", "$;"}, {"w99.9", "$;"},
        {"f", DIGITS}, {"f0", "$;"}, {"f1", DIGITS + "$;"}, {"f9", DIGITS + "$;"}, {"f10", "$;"}, {"f99", "$;"},
        {"o", DIGITS}, {"o0", "$;"}, {"o9", "$;"},
        {"t", DIGITS}, {"t0", "$;"}, {"t1", DIGITS + "$;"}, {"t9", DIGITS + "$;"}, {"t10", "$;"}, {"t99", "$;"},
        {"a", DIGITS}, {"a0", "$;"}, {"a9", "$;"},
        {"p12;", ORDERS}, {"f0;", ORDERS}, {"t99;", ORDERS}, {"w1.2;s3>4;", ORDERS}};

    private static void fault(String text, int due) {
        DOC.due("fault() of '" + text + "'", new Ways().write(text).fault(), due);
    }

    // ---- The texts

    private static void fullPad() {
        DOC.of(TEXTS, "The pad is a text of at most 80 characters, a row of orders:");
        String text = "t1;t2;t3;".repeat(8) + "t1;t2;t3";
        Ways ways = new Ways().write(text);
        DOC.due("count(13)", ways.count(13), 80);
        DOC.due("one more: put(4)", ways.put('4'), TOO_MANY);
        DOC.due("the last character counts: fault()", ways.fault(), NONE);
        DOC.due("carryOut()", ways.carryOut(), 27);
        DOC.due("count(0)", ways.count(0), 54);
        Ways p = new Ways().write("p12;".repeat(10) + "t9;t99;t88;t77;t66;t55;t44;t33;t22;a12");
        DOC.due("count(13)", p.count(13), 78);
        DOC.due("a fault near the end: fault()", p.fault(), 77);
        DOC.due("put(;;)", p.put(Ways.packed(";;")), 80);
        DOC.due("fault()", p.fault(), 77);
    }

    private static void rowOfOrders() {
        DOC.of(TEXTS, "text = order { \";\" order }");
        String[] orders = {"p00", "s0>1", "i00/0", "w0.0", "w10.0", "f0", "f10", "o0", "t0", "t10", "a0"};
        for (String order : orders) {
            fault(order, NONE);
            fault(order + ";", order.length() + 1);
            fault(order + ";;", order.length() + 1);
            fault(";" + order, 0);
            for (String other : orders) {
                fault(order + ";" + other, NONE);
                fault(order + other, order.length());
                fault(order + "," + other, order.length());
            }
        }
        DOC.of(TEXTS, "order = \"p\" digit digit | \"s\" digit \">\" digit | \"i\" digit digit \"/\" digit | \"w\" number \".\" digit"
            + " | \"f\" number | \"o\" digit | \"t\" number | \"a\" digit");
        for (String[] one : NEXT) {
            for (char sign = 33; sign <= 126; sign++) {
                Ways ways = new Ways().write(one[0] + sign);
                boolean mayStand = one[1].indexOf(sign) >= 0 && sign != '$';
                DOC.holds("behind '" + one[0] + "' may stand '" + sign + "': " + mayStand, ways.fault() != one[0].length() == mayStand);
            }
            fault(one[0], one[1].contains("$") ? NONE : one[0].length());
        }
    }

    /** What an order does, and what the call does that it stands for, from the same state. */
    private static void same(String order, Sentences.Start start, Sentences.Call call) {
        Ways text = new Ways();
        start.on(text);
        text.wipe();
        int answer = text.carryOut(order);
        Ways calls = new Ways();
        start.on(calls);
        int called = call.on(calls);
        DOC.due("carryOut() of " + order, answer, called >= 0 || called == NONE ? 1 : 0);
        DOC.holds(order + " does what the call does", Looks.town(text).equals(Looks.town(calls)));
    }

    private static void orders() {
        DOC.of(TEXTS, "\"p\": person() with pride and tact;");
        same("p09", Towns::busy, x -> x.person(0, 9));
        same("p90", Towns::busy, x -> x.person(9, 0));
        same("p55", Towns::full, x -> x.person(5, 5));
        DOC.of(TEXTS, "\"s\": second() of a person;");
        same("s2>4", Towns::busy, x -> x.second(2, 4));
        same("s9>0", Towns::full, x -> x.second(9, 0));
        same("s5>0", Towns::busy, x -> x.second(5, 0));
        same("s4>4", Towns::busy, x -> x.second(4, 4));
        DOC.of(TEXTS, "\"i\": insult() of an offender and an offended one, with its rank;");
        same("i01/1", Towns::busy, x -> x.insult(0, 1, 1));
        same("i10/9", Towns::busy, x -> x.insult(1, 0, 9));
        same("i10/0", Towns::busy, x -> x.insult(1, 0, 0));
        same("i23/5", Towns::busy, x -> x.insult(2, 3, 5));
        same("i89/5", Towns::full, x -> x.insult(8, 9, 5));
        DOC.of(TEXTS, "\"w\": settle() a quarrel by a way;");
        same("w2.3", Towns::busy, x -> x.settle(2, 3));
        same("w3.2", Towns::busy, x -> x.settle(3, 2));
        same("w0.0", Towns::busy, x -> x.settle(0, 0));
        same("w2.5", Towns::busy, x -> x.settle(2, 5));
        Sentences.Start late = x -> {
            Towns.full(x);
            x.swear(1);
        };
        same("w10.3", late, x -> x.settle(10, 3));
        same("w11.3", late, x -> x.settle(11, 3));
        same("w12.3", late, x -> x.settle(12, 3));
        same("w99.9", late, x -> x.settle(99, 9));
        DOC.of(TEXTS, "\"f\": fight();");
        same("f3", Towns::busy, x -> x.fight(3));
        same("f2", Towns::busy, x -> x.fight(2));
        Sentences.Start due = x -> {
            Towns.full(x);
            x.pass(72);
        };
        same("f10", due, x -> x.fight(10));
        same("f99", due, x -> x.fight(99));
        DOC.of(TEXTS, "\"o\": swear();");
        same("o4", Towns::busy, x -> x.swear(4));
        same("o1", Towns::busy, x -> x.swear(1));
        same("o9", Towns::full, x -> x.swear(9));
        DOC.of(TEXTS, "\"t\": pass() hours;");
        same("t0", Towns::busy, x -> x.pass(0));
        same("t1", Towns::busy, x -> x.pass(1));
        same("t10", Towns::busy, x -> x.pass(10));
        same("t99", Towns::busy, x -> x.pass(99));
        same("t1", Towns.busyAt(9999), x -> x.pass(1));
        DOC.of(TEXTS, "\"a\": allow() a way.");
        for (int way = 0; way < 10; way++) {
            int number = way;
            same("a" + way, Towns::busy, x -> x.allow(number));
        }
    }

    private static void digitsAndNumbers() {
        DOC.of(TEXTS, "A digit is 0 to 9, a number 0 to 99, without leading zeros.");
        for (char digit = '0'; digit <= '9'; digit++) {
            for (String[] form : new String[][] {{"p", "0"}, {"p0", ""}, {"s", ">0"}, {"s0>", ""}, {"i", "0/0"}, {"i0", "/0"},
                {"i00/", ""}, {"w0.", ""}, {"o", ""}, {"a", ""}, {"w", ".0"}, {"f", ""}, {"t", ""}}) {
                fault(form[0] + digit + form[1], NONE);
            }
        }
        for (int number = 0; number <= 99; number++) {
            fault("f" + number, NONE);
            fault("t" + number, NONE);
            fault("w" + number + ".0", NONE);
            fault("f0" + number, 2);
            fault("t0" + number, 2);
            fault("w0" + number + ".0", 2);
        }
        for (String beside : new String[] {"/", ":", "-", "+", "a", "_"}) {
            fault("p" + beside, 1);
            fault("o" + beside, 1);
            fault("t" + beside, 1);
            fault("w" + beside, 1);
        }
        for (int hours = 1; hours <= 99; hours++) {
            Ways ways = new Ways();
            ways.carryOut("t" + hours);
            DOC.due("carryOut() of t" + hours + ": count(0)", ways.count(0), hours);
        }
    }

    private static void faults() {
        DOC.of(TEXTS, "The fault is the index of the first character that cannot stand at its place when the text is read from left to "
            + "right (also of a digit by which a number would be above 99);");
        fault("x", 0);
        fault("P12", 0);
        fault("1", 0);
        fault("p1x", 2);
        fault("p123", 3);
        fault("s1>23", 4);
        fault("i12/34", 5);
        fault("o12", 2);
        fault("a12", 2);
        fault("w1.12", 4);
        fault("t1;t2;tt;x", 7);
        fault("x;x", 0);
        fault("f100", 3);
        fault("f990", 3);
        fault("f1000", 3);
        fault("t100", 3);
        fault("w100.0", 3);
        fault("w999.0", 3);
        fault("f00", 2);
        fault("t1;f100", 6);
        fault("t1;t2;t3;".repeat(8) + "t1;t2;f0", NONE);
        fault("t1;t2;t3;".repeat(8) + "t1;t2;fx", 79);
        fault("x" + "t1;t2;t3;".repeat(8) + "t1;t2;t", 0);
        DOC.of(TEXTS, "if there is none and the text ends too early (also if it is empty), it is the length of the text.");
        fault("", 0);
        for (String text : new String[] {"p", "p1", "s", "s1", "s1>", "i", "i1", "i12", "i12/", "w", "w1", "w12", "w1.", "w12.",
            "f", "o", "t", "a", "t1;", "t1;t", "t1;p2", "f99;"}) {
            fault(text, text.length());
        }
        fault("t1;t2;t3;".repeat(8) + "t1;t2;t;", 79);
        fault("t1;t2;t3;".repeat(8) + "t1;t2;p3", 80);
        fault("t1;t2;t3;".repeat(8) + "t1;t22;t", 80);
    }

    private static void constants() {
        DOC.of(TEXTS, "The constants: `NO_SUCH = -1, BAD_VALUE = -2, BAD_TEXT = -3, TOO_MANY = -4, NOT_POSSIBLE = -5, NONE = -6`: "
            + "Error codes, and NONE: there is none.");
        int[] codes = {QuarrelWays.NO_SUCH, QuarrelWays.BAD_VALUE, QuarrelWays.BAD_TEXT, QuarrelWays.TOO_MANY,
            QuarrelWays.NOT_POSSIBLE, QuarrelWays.NONE};
        for (int code = 0; code < codes.length; code++) {
            DOC.due("code " + code, codes[code], -1 - code);
        }
        DOC.of(TEXTS, "`COOL = 0, NOTICE = 1, OATH = 2, PEACE = 3`: Settings.");
        int[] settings = {QuarrelWays.COOL, QuarrelWays.NOTICE, QuarrelWays.OATH, QuarrelWays.PEACE};
        for (int setting = 0; setting < settings.length; setting++) {
            DOC.due("setting " + setting, settings[setting], setting);
        }
    }

    // ---- Promise 23

    private static void putting() {
        DOC.of(PUT, "Appends characters to the pad.");
        Ways ways = new Ways();
        ways.put(Ways.packed("p1"));
        ways.put(Ways.packed("2;t9"));
        DOC.due("carryOut()", ways.carryOut(), 2);
        DOC.due("of(0, 0)", ways.of(0, 0), 1);
        DOC.due("of(0, 1)", ways.of(0, 1), 2);
        DOC.due("count(0)", ways.count(0), 9);
        DOC.due("it is no change: count(14)", ways.count(14), 1);
        DOC.of(PUT, "They are given as a number: its lowest 8 bits are the last character, the next 8 bits the one before, and so on;");
        ways.put(0x70_33_34L);
        DOC.due("p34: carryOut()", ways.carryOut(), 1);
        DOC.due("of(1, 0)", ways.of(1, 0), 3);
        DOC.due("of(1, 1)", ways.of(1, 1), 4);
        ways.put(0x6F_30_3B_6F_31_3B_61_33L);
        DOC.due("o0;o1;a3: carryOut()", ways.carryOut(), 3);
        DOC.due("count(7)", ways.count(7), 23);
        DOC.due("count(8)", ways.count(8), 3);
        DOC.of(PUT, "8 bits that are 0 mean that there are no more characters, and everything above them has to be 0, too.");
        for (int number = 1; number <= 8; number++) {
            DOC.due("put() of " + number, new Ways().put(Ways.packed("abcdefgh".substring(8 - number))), number);
        }
        for (int bits = 16; bits < 64; bits++) {
            long above = 'a' | 1L << bits;
            DOC.keeps(Towns::busy, "put(" + above + ")", x -> x.put(above), BAD_VALUE);
        }
    }

    private static void oneToEight() {
        DOC.of(PUT, "`characters`: 1 to 8 characters");
        DOC.due("one: put(a)", new Ways().put('a'), 1);
        DOC.due("eight: put(abcdefgh)", new Ways().put(Ways.packed("abcdefgh")), 8);
        DOC.due("eight of the lowest", new Ways().put(0x2121212121212121L), 8);
        DOC.due("eight of the highest", new Ways().put(0x7E7E7E7E7E7E7E7EL), 8);
        DOC.keeps(Towns::busy, "none: put(0)", x -> x.put(0), BAD_VALUE);
        DOC.of(PUT, "Returns the length of the pad then;");
        Ways ways = new Ways();
        DOC.due("put(a)", ways.put('a'), 1);
        DOC.due("put(abcdefgh)", ways.put(Ways.packed("abcdefgh")), 9);
        DOC.due("put(ab)", ways.put(Ways.packed("ab")), 11);
        ways.wipe();
        DOC.due("behind wipe(): put(abc)", ways.put(Ways.packed("abc")), 3);
    }

    private static void puttingRefused() {
        DOC.of(PUT, "BAD_VALUE if there is no character,");
        DOC.keeps(Towns::busy, "put(0)", x -> x.put(0), BAD_VALUE);
        DOC.keeps(x -> x.person(1, 1), "put(0) on an empty pad", x -> x.put(0), BAD_VALUE);
        DOC.of(PUT, "a code is not 33 to 126,");
        for (int code = 1; code <= 255; code++) {
            DOC.due("put(" + code + ")", new Ways().put(code), code >= 33 && code <= 126 ? 1 : BAD_VALUE);
        }
        for (int code : new int[] {1, 32, 127, 128, 161, 255}) {
            for (int bits = 0; bits < 64; bits += 8) {
                long one = 0x6161616161616161L & ~(255L << bits) | (long) code << bits;
                DOC.keeps(Towns::busy, "put(" + one + ")", x -> x.put(one), BAD_VALUE);
            }
        }
        for (int code : new int[] {33, 126}) {
            for (int bits = 0; bits < 64; bits += 8) {
                long one = 0x6161616161616161L & ~(255L << bits) | (long) code << bits;
                DOC.due("put(" + one + ")", new Ways().put(one), 8);
            }
        }
        for (long one : new long[] {-1, Long.MIN_VALUE, Long.MAX_VALUE, Integer.MIN_VALUE, Integer.MAX_VALUE}) {
            DOC.keeps(Towns::busy, "put(" + one + ")", x -> x.put(one), BAD_VALUE);
        }
        DOC.of(PUT, "or a bit above 8 bits that are 0 is not 0;");
        for (int bits = 0; bits < 56; bits += 8) {
            long hole = 0x6161616161616161L & ~(255L << bits);
            DOC.keeps(Towns::busy, "put(" + hole + ")", x -> x.put(hole), BAD_VALUE);
        }
        for (long one : new long[] {0x0100L, 0x6100L, 0x610061L, 0x010061L, 1L << 63 | 'a', 0x0100_0000_0000_0061L, 0x0100_6161_6161_6161L}) {
            DOC.keeps(Towns::busy, "put(" + one + ")", x -> x.put(one), BAD_VALUE);
        }
    }

    private static void tooMany() {
        DOC.of(PUT, "TOO_MANY if the pad would be longer than 80.");
        for (int number = 1; number <= 8; number++) {
            long characters = Ways.packed("34;t5;t6".substring(0, number));
            String there = "t1;t2;t3;".repeat(8) + "t1;t2;t3";
            String room = there.substring(0, 80 - number);
            String less = there.substring(0, 81 - number);
            DOC.due(number + " on " + room.length(), new Ways().write(room).put(characters), 80);
            DOC.keeps(x -> x.write(less), number + " on " + less.length(), x -> x.put(characters), TOO_MANY);
            DOC.keeps(x -> x.write(there), number + " on 80", x -> x.put(characters), TOO_MANY);
        }
        Ways ways = new Ways().write("t1;".repeat(26) + "t1");
        DOC.due("put(;)", ways.put(';'), TOO_MANY);
        DOC.due("wipe()", ways.wipe(), 80);
        DOC.due("room again: put(abcdefgh)", ways.put(Ways.packed("abcdefgh")), 8);
    }

    // ---- Promises 24 and 25

    private static void wiping() {
        DOC.of(WIPE, "Empties the pad, and returns the length that it had.");
        Ways ways = new Ways();
        DOC.due("an empty one: wipe()", ways.wipe(), 0);
        ways.put('a');
        DOC.due("one character: wipe()", ways.wipe(), 1);
        DOC.due("count(13)", ways.count(13), 0);
        DOC.due("fault()", ways.fault(), 0);
        DOC.due("again: wipe()", ways.wipe(), 0);
        ways.write("t1;t2;t3;".repeat(8) + "t1;t2;t3");
        DOC.due("a full one: wipe()", ways.wipe(), 80);
        ways.write("o");
        DOC.due("nothing of the old text: fault()", ways.fault(), 1);
        DOC.due("it is no change: count(14)", ways.count(14), 0);
        DOC.due("undo()", ways.undo(), NOT_POSSIBLE);
        Ways busy = new Ways();
        Towns.busy(busy);
        String before = Looks.town(busy);
        busy.wipe();
        DOC.holds("the town stays", before.equals(Looks.town(busy)));
        DOC.due("the history stays: count(14)", busy.count(14), 6);
    }

    private static void faultOfThePad() {
        DOC.of(FAULT, "Returns the fault of the pad, NONE if there is none.");
        DOC.keeps(Towns::busy, "fault() of 'a0;t5'", x -> x.fault(), NONE);
        DOC.keeps(x -> x.write("a0;t"), "fault() of 'a0;t'", x -> x.fault(), 4);
        DOC.keeps(x -> x.write("a0;x5"), "fault() of 'a0;x5'", x -> x.fault(), 3);
        DOC.keeps(x -> x.person(1, 1), "fault() of an empty pad", x -> x.fault(), 0);
        Ways ways = new Ways().write("f1");
        DOC.due("fault()", ways.fault(), NONE);
        ways.put('0');
        DOC.due("fault()", ways.fault(), NONE);
        ways.put('0');
        DOC.due("fault()", ways.fault(), 3);
        ways.put(';');
        DOC.due("fault()", ways.fault(), 3);
    }

    // ---- Promise 26

    /** A text on the busy town: how many of its orders are carried out, and what they do. */
    private static void carriesOut(String text, int done, Sentences.Start same) {
        Ways ways = new Ways();
        Towns.busy(ways);
        ways.wipe();
        DOC.due("carryOut() of " + text, ways.carryOut(text), done);
        DOC.due("it empties the pad: count(13)", ways.count(13), 0);
        Ways calls = new Ways();
        Towns.busy(calls);
        same.on(calls);
        DOC.holds(text + " does what its first " + done + " do", Looks.town(ways).equals(Looks.town(calls)));
    }

    private static void carrying() {
        DOC.of(CARRY_OUT, "Carries the orders of the pad out, one after the other,");
        carriesOut("a3;a0", 2, x -> {
            x.allow(3);
            x.allow(0);
        });
        carriesOut("s2>4;s2>3", 2, x -> x.second(2, 3));
        carriesOut("p12;s5>0;i50/9;t1;o5;w4.3", 6, x -> {
            x.person(1, 2);
            x.second(5, 0);
            x.insult(5, 0, 9);
            x.pass(1);
            x.swear(5);
            x.settle(4, 3);
        });
        carriesOut("f3;t99;o3", 3, x -> {
            x.fight(3);
            x.pass(99);
            x.swear(3);
        });
        DOC.of(CARRY_OUT, "up to the first one that returns an error, and empties the pad.");
        carriesOut("t0;t1", 0, x -> { });
        carriesOut("t1;t0;t2", 1, x -> x.pass(1));
        carriesOut("t1;t2;t0", 2, x -> x.pass(3));
        carriesOut("s2>3;s2>4;t1", 3, x -> {
            x.second(2, 4);
            x.pass(1);
        });
        carriesOut("s2>5;t1", 0, x -> { });
        carriesOut("s2>2;t1", 0, x -> { });
        carriesOut("i23/1;t1", 0, x -> { });
        carriesOut("i05/1;t1", 0, x -> { });
        carriesOut("i04/0;t1", 0, x -> { });
        carriesOut("w0.0;t1", 0, x -> { });
        carriesOut("w4.0;t1", 0, x -> { });
        carriesOut("f0;t1", 0, x -> { });
        carriesOut("f4;t1", 0, x -> { });
        carriesOut("f3;f3;t1", 1, x -> x.fight(3));
        carriesOut("o1;t1", 0, x -> { });
        carriesOut("o5;t1", 0, x -> { });
        carriesOut("a5;t1", 0, x -> { });
        carriesOut("a4;a9;t1", 1, x -> x.allow(4));
        carriesOut("p00;p00;p00;p00;p00;p00;t1", 5, x -> x.people(5, 0, 0));
        Ways late = new Ways().later(9990);
        DOC.due("up to the last hour: carryOut()", late.carryOut("t5;t4;t1;a0"), 2);
        DOC.due("count(0)", late.count(0), 9999);
        DOC.due("count(7)", late.count(7), 31);
    }

    private static void oneChange() {
        DOC.of(CARRY_OUT, "This is a change (one, with all of them;");
        Ways ways = new Ways();
        DOC.due("carryOut()", ways.carryOut("p12;p34;t5;o0;a0;i01/9;t6;t7;t8"), 9);
        DOC.due("count(14)", ways.count(14), 1);
        DOC.due("undo()", ways.undo(), 0);
        int[] first = {0, 0, 0, 0, 0, 0, 0, 31, 0};
        for (int what = 0; what < first.length; what++) {
            DOC.due("all of them are undone: count(" + what + ")", ways.count(what), first[what]);
        }
        DOC.due("the pad stays empty: count(13)", ways.count(13), 0);
        DOC.of(CARRY_OUT, "also if none is carried out).");
        Ways none = new Ways();
        none.pass(1);
        DOC.due("carryOut()", none.carryOut("t0;t5"), 0);
        DOC.due("count(14)", none.count(14), 2);
        DOC.due("undo()", none.undo(), 1);
        DOC.due("count(0)", none.count(0), 1);
        Ways full = new Ways();
        Towns.busy(full);
        full.wipe();
        DOC.due("carryOut()", full.carryOut("o9"), 0);
        for (int left = 5; left >= 0; left--) {
            DOC.due("behind a full history: undo()", full.undo(), left);
        }
        DOC.due("the oldest state was dropped: count(2)", full.count(2), 2);
    }

    private static void howMany() {
        DOC.of(CARRY_OUT, "Returns how many orders were carried out;");
        for (int orders = 1; orders <= 26; orders++) {
            DOC.due(orders + " orders: carryOut()", new Ways().carryOut("t1" + ";t1".repeat(orders - 1)), orders);
        }
        DOC.due("40 characters: carryOut()", new Ways().carryOut("a0;".repeat(13) + "a0"), 14);
        DOC.of(CARRY_OUT, "BAD_TEXT if the pad has a fault (then it stays).");
        DOC.keeps(x -> x.person(1, 1), "an empty pad: carryOut()", x -> x.carryOut(), BAD_TEXT);
        for (String text : new String[] {"x", "t", "t1;", "t1;t", "t1;t2;x", "t100", "t01", "p12;p34;p5", "t1;;t2"}) {
            DOC.keeps(x -> {
                Towns.busy(x);
                x.wipe();
                x.write(text);
            }, "carryOut() of " + text, x -> x.carryOut(), BAD_TEXT);
        }
        Ways ways = new Ways().write("p12;p3");
        DOC.due("carryOut()", ways.carryOut(), BAD_TEXT);
        DOC.due("count(13)", ways.count(13), 6);
        DOC.due("nothing is carried out: count(1)", ways.count(1), 0);
        DOC.due("count(14)", ways.count(14), 0);
        DOC.due("with the rest: carryOut()", ways.carryOut("4"), 2);
        DOC.due("of(1, 1)", ways.of(1, 1), 4);
        Ways full = new Ways().write("t1;".repeat(26) + "t;");
        DOC.due("80 characters: carryOut()", full.carryOut(), BAD_TEXT);
        DOC.due("count(13)", full.count(13), 80);
    }

    public static void main(String[] args) {
        fullPad();
        rowOfOrders();
        orders();
        digitsAndNumbers();
        faults();
        constants();
        putting();
        oneToEight();
        puttingRefused();
        tooMany();
        wiping();
        faultOfThePad();
        carrying();
        oneChange();
        howMany();
        DOC.end();
    }
}
