/** Promises 23 to 26: the pad. */
public final class TextsTest {
    private static final Checks CHECKS = new Checks();

    private static void due(String call, long got, long want) {
        CHECKS.due(call, got, want);
    }

    private static void putting() {
        CHECKS.of("promise 23");
        QuarrelWays ways = new QuarrelWays();
        due("put(p)", ways.put('p'), 1);
        due("put(12)", ways.put(Checks.packed("12")), 3);
        due("the last character is the lowest: fault()", ways.fault(), -6);
        due("put(;t9)", ways.put(Checks.packed(";t9")), 6);
        due("fault()", ways.fault(), -6);
        due("put(!)", ways.put(33), 7);
        due("put(~)", ways.put(126), 8);
        long[] bad = {0, 32, 127, 128, 255, -1, Long.MIN_VALUE, Long.MAX_VALUE, 0x0100, 0x6100, 0x610061L,
            0x6161006161L, 0x2061, 0x6120, 0x7F61, 0x617F, 0x8061, 0x6161616161616180L, 0x8061616161616161L,
            0x2061616161616161L, 0x6100000000000061L, 1L << 63 | 0x61, 0x0061616161616100L, 1L << 40};
        for (long one : bad) {
            due("put(" + one + ")", ways.put(one), -2);
        }
        due("count(13)", ways.count(13), 8);
        due("put of eight", ways.put(Checks.packed("abcdefgh")), 16);
        due("put of seven", ways.put(Checks.packed("!~!~!~!")), 23);
        due("put of eight of the highest", ways.put(0x7E7E7E7E7E7E7E7EL), 31);
        due("no change: count(14)", ways.count(14), 0);
        QuarrelWays full = new QuarrelWays();
        for (int puts = 1; puts <= 9; puts++) {
            due("put of eight", full.put(Checks.packed("t1;t2;t3")), 8 * puts);
        }
        due("put of seven", full.put(Checks.packed("1234567")), 79);
        due("two more than there is room for", full.put(Checks.packed("12")), -4);
        due("count(13)", full.count(13), 79);
        due("bad characters come first", full.put(Checks.packed("1 ")), -2);
        due("the last one", full.put('1'), 80);
        due("one too many", full.put('1'), -4);
        due("eight too many", full.put(Checks.packed("12345678")), -4);
        due("nothing at the end", full.put(0), -2);
        due("count(13)", full.count(13), 80);
    }

    private static void wiping() {
        CHECKS.of("promise 24");
        QuarrelWays ways = new QuarrelWays();
        due("wipe()", ways.wipe(), 0);
        Checks.write(ways, "p12;p34;t100");
        due("wipe()", ways.wipe(), 12);
        due("count(13)", ways.count(13), 0);
        due("fault()", ways.fault(), 0);
        due("wipe()", ways.wipe(), 0);
        due("no change: count(14)", ways.count(14), 0);
        due("undo()", ways.undo(), -5);
        Checks.write(ways, "o");
        due("nothing of the old text: fault()", ways.fault(), 1);
    }

    private static void fault(String text, int want) {
        QuarrelWays ways = new QuarrelWays();
        Checks.write(ways, text);
        due("fault() of '" + text + "'", ways.fault(), want);
        due("fault() of '" + text + "' again", ways.fault(), want);
        due("count(13) of '" + text + "'", ways.count(13), text.length());
        due("carryOut() of '" + text + "'", want == -6 ? 0 : ways.carryOut(), want == -6 ? 0 : -3);
        due("count(14) of '" + text + "'", ways.count(14), 0);
    }

    private static void faults() {
        CHECKS.of("promise 25");
        String[] whole = {"p00", "p99", "s0>9", "i01/9", "i00/0", "w0.0", "w9.9", "w10.0", "w99.9", "f0", "f9", "f10",
            "f99", "o0", "o9", "t0", "t1", "t10", "t99", "a0", "a9", "p12;p34", "t9;t99;t1", "w12.3;f4;f56;o7;a8;i12/3;s4>5"};
        for (String text : whole) {
            fault(text, -6);
            fault(text + ";", text.length() + 1);
            fault(text + ";;", text.length() + 1);
            fault(text + ";x", text.length() + 1);
            fault(text + ";p1", text.length() + 3);
        }
        String[] tooShort = {"", "p", "p1", "s", "s1", "s1>", "i", "i1", "i12", "i12/", "w", "w1", "w12", "w1.", "w12.",
            "f", "o", "t", "a"};
        for (String text : tooShort) {
            fault(text, text.length());
        }
        fault(";", 0);
        fault("x1", 0);
        fault("P12", 0);
        fault("1", 0);
        fault("px", 1);
        fault("p1x", 2);
        fault("p123", 3);
        fault("p1;2", 2);
        fault("s12", 2);
        fault("s1>x", 3);
        fault("s1>23", 4);
        fault("i1/2", 2);
        fault("i12>3", 3);
        fault("i12/x", 4);
        fault("i12/34", 5);
        fault("wx", 1);
        fault("w.1", 1);
        fault("w1;1", 2);
        fault("w01.1", 2);
        fault("w123.1", 3);
        fault("w1.12", 4);
        fault("w1.x", 3);
        fault("f00", 2);
        fault("f01", 2);
        fault("f100", 3);
        fault("f999", 3);
        fault("fx", 1);
        fault("f1x", 2);
        fault("f12x", 3);
        fault("t-1", 1);
        fault("t007", 2);
        fault("o12", 2);
        fault("a12", 2);
        fault("a:", 1);
        fault("a/", 1);
        fault("t1,t2", 2);
        fault("t1;t2;tt", 7);
        fault("t1;t2;t3;".repeat(8) + "t1;t2;t", 79);
        fault("t1;t2;t3;".repeat(8) + "t1;t2;t3", -6);
        fault("t1;t2;t3;".repeat(8) + "t1;t2;t;", 79);
        fault("t1;t2;t3;".repeat(8) + "t1;t2;f0", -6);
    }

    /** Each order does what its own method does, and the texts tell no more than their orders. */
    private static void orders() {
        CHECKS.of("promise 26, orders");
        QuarrelWays text = new QuarrelWays();
        QuarrelWays calls = new QuarrelWays();
        due("carryOut()", Checks.carryOut(text, "p91;p82;p93;p08;p09;s0>3;s1>4;s0>4;s0>3;i01/8;i12/9;t20;o2;a0"), 14);
        int[][] persons = {{9, 1}, {8, 2}, {9, 3}, {0, 8}, {0, 9}};
        for (int[] person : persons) {
            calls.person(person[0], person[1]);
        }
        calls.second(0, 3);
        calls.second(1, 4);
        calls.insult(0, 1, 8);
        calls.insult(1, 2, 9);
        calls.pass(20);
        calls.swear(2);
        calls.allow(0);
        CHECKS.holds("all is as by calls", Checks.view(text).equals(Checks.view(calls)));
        due("count(14)", text.count(14), 1);
        due("carryOut()", Checks.carryOut(text, "w0.1;t72;f1"), 3);
        calls.settle(0, 1);
        calls.pass(72);
        calls.fight(1);
        CHECKS.holds("all is as by calls", Checks.view(text).equals(Checks.view(calls)));
        due("quarrel(1, 4)", text.quarrel(1, 4), 2);
        due("two digits: carryOut()", Checks.carryOut(text, "t10;t99"), 2);
        due("count(0)", text.count(0), 201);
    }

    /** A text whose first order fails carries nothing out, and is a change all the same. */
    private static void stops(String text, int done) {
        QuarrelWays ways = new QuarrelWays();
        Checks.carryOut(ways, "p91;p92;p93;i01/9");
        due("carryOut() of " + text, Checks.carryOut(ways, text), done);
        due("count(13) behind " + text, ways.count(13), 0);
        due("count(14) behind " + text, ways.count(14), 2);
        due("undo() behind " + text, ways.undo(), 1);
        due("count(0) behind " + text, ways.count(0), 0);
        due("count(1) behind " + text, ways.count(1), 3);
    }

    private static void carrying() {
        CHECKS.of("promise 26");
        stops("t0", 0);
        stops("t0;t1", 0);
        stops("t1;t0;t2", 1);
        stops("s0>3;t1", 0);
        stops("s1>1;t1", 0);
        stops("s0>1;s1>0;t1;s2>2;t3", 3);
        stops("i01/5;t1", 0);
        stops("i02/0;t1", 0);
        stops("i03/1;t1", 0);
        stops("i11/1;t1", 0);
        stops("w0.5;t1", 0);
        stops("w1.0;t1", 0);
        stops("w0.2;t1", 0);
        stops("f0;t1", 0);
        stops("f99;t1", 0);
        stops("t24;f0;t1", 3);
        stops("t24;f0;f0;t1", 2);
        stops("o3;t1", 0);
        stops("o1;o1;t1", 1);
        stops("a5;t1", 0);
        stops("a4;a9;t1", 1);
        stops("p00;p11;p22;p33;p44;p55;p66;p77;t1", 7);
        QuarrelWays ways = new QuarrelWays();
        due("an empty pad: carryOut()", ways.carryOut(), -3);
        due("count(14)", ways.count(14), 0);
        due("a fault: carryOut()", Checks.carryOut(ways, "p12;p3"), -3);
        due("the pad stays: count(13)", ways.count(13), 6);
        due("nothing is carried out: count(1)", ways.count(1), 0);
        due("count(14)", ways.count(14), 0);
        due("the rest: carryOut()", Checks.carryOut(ways, "4"), 2);
        due("of(1, 1)", ways.of(1, 1), 4);
        due("count(13)", ways.count(13), 0);
        due("count(14)", ways.count(14), 1);
        due("a full pad: carryOut()", Checks.carryOut(ways, "t1;t2;t3;".repeat(8) + "t1;t2;t3"), 27);
        due("count(0)", ways.count(0), 54);
        due("undo()", ways.undo(), 1);
        due("count(0)", ways.count(0), 0);
        due("undo() leaves the pad empty: count(13)", ways.count(13), 0);
        for (int texts = 0; texts < 101; texts++) {
            ways.pass(99);
        }
        due("beyond the last hour: carryOut()", Checks.carryOut(ways, "a0;t1;a1"), 1);
        due("count(7)", ways.count(7), 30);
    }

    public static void main(String[] args) {
        putting();
        wiping();
        faults();
        orders();
        carrying();
        CHECKS.end();
    }
}
