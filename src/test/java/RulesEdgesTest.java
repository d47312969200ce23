/** Promises 6 to 11: each sentence that names a boundary case. */
final class RulesEdgesTest {
    private static final int UNKNOWN = Rings.UNKNOWN, OUTSIDE = Rings.OUTSIDE;
    private static final int FULL = Rings.FULL, NONE = Rings.NONE;
    private static final int WAIT = Rings.WAIT, GO = Rings.GO, FLEE = Rings.FLEE;
    private static final int LOW = Rings.LOW, HIGH = Rings.HIGH;

    private RulesEdgesTest() {
    }

    public static void main(String[] args) {
        Edge.of("A RULE more, for both: its number.", RulesEdgesTest::rule);
        Edge.of("its number. OUTSIDE: all five;", RulesEdgesTest::ruleOutside);
        Edge.of("OUTSIDE: all five; FULL.", RulesEdgesTest::ruleFull);
        Edge.of("For whom a RULE is: which it was.", RulesEdgesTest::whom);
        Edge.of("which it was. UNKNOWN; OUTSIDE.", RulesEdgesTest::whomRefused);
        Edge.of("A RULE goes, those behind it have numbers less by 1 then: how many are left.", RulesEdgesTest::drop);
        Edge.of("how many are left. UNKNOWN.", RulesEdgesTest::dropUnknown);
        Edge.of("how it is asked (2), the number (3), what is done (4), for whom it is (5).", RulesEdgesTest::of);
        Edge.of("for whom it is (5). UNKNOWN; OUTSIDE.", RulesEdgesTest::ofRefused);
        Edge.of("whether its VIEW is GAPS up (what = 0: 1, 0), whether it is EVEN (1: 1, 0), "
                + "the first RULE that FITS it (2; NONE), what it does (3), the CELL on which it is behind that (4).",
                RulesEdgesTest::does);
        Edge.of("behind that (4). UNKNOWN: there is no such CELL, or no STAND; OUTSIDE.", RulesEdgesTest::doesRefused);
        Edge.of("STEP of a set of STANDS (those that WAIT, too): how many STANDS there are behind it.", RulesEdgesTest::step);
        Edge.of("OUTSIDE: a CELL of the set is not there, or no STAND (also a set below 0).", RulesEdgesTest::stepOutside);
        Check.end();
    }

    private static void parts(String name, RingMeets x, int rule, int... due) {
        for (int what = 0; what < due.length; what++) {
            Check.due(name + ": of(" + rule + ", " + what + ")", x.of(rule, what), due[what]);
        }
    }

    private static void rule() {
        int[] least = {0, 0, 0, 1, 0};
        int[] most = {5, 4, 2, 10, 2};
        RingMeets x = new RingMeets();
        for (int i = 0; i < 5; i++) {
            int[] a = least.clone();
            a[i] = most[i];
            Check.due("the most at " + i, x.rule(a[0], a[1], a[2], a[3], a[4]), i);
            parts("the most at " + i, x, i, a[0], a[1], a[2], a[3], a[4], 2);
        }
        Check.due("the least of all", x.rule(0, 0, 0, 1, 0), 5);
        parts("the least of all", x, 5, 0, 0, 0, 1, 0, 2);
        Check.due("the most of all", x.rule(5, 4, 2, 10, 2), 6);
        parts("the most of all", x, 6, 5, 4, 2, 10, 2, 2);
        x.whom(6, 0);
        x.drop(6);
        Check.due("one more", x.rule(1, 1, 1, 1, 1), 6);
        parts("for both, though the one that has gone was not", x, 6, 1, 1, 1, 1, 1, 2);
    }

    private static void ruleOutside() {
        RingMeets x = new RingMeets();
        int[] least = {0, 0, 0, 1, 0};
        int[] most = {5, 4, 2, 10, 2};
        for (int i = 0; i < 5; i++) {
            for (int v : new int[] {least[i] - 1, most[i] + 1, LOW, HIGH}) {
                int[] a = most.clone();
                a[i] = v;
                Check.due(v + " at " + i, x.rule(a[0], a[1], a[2], a[3], a[4]), OUTSIDE);
            }
        }
        Check.due("all five", x.rule(6, 5, 3, 11, 3), OUTSIDE);
        Check.due("no RULE is there", x.count(4), 0);
    }

    private static void ruleFull() {
        RingMeets x = new RingMeets();
        for (int i = 0; i < 10; i++) {
            Check.due("RULE " + i, x.rule(0, 0, 0, i + 1, 0), i);
        }
        Check.due("the eleventh", x.rule(1, 1, 1, 1, 1), FULL);
        Check.due("the eleventh again", x.rule(1, 1, 1, 1, 1), FULL);
        Check.due("the eleventh is OUTSIDE ahead of that", x.rule(1, 1, 1, 0, 1), OUTSIDE);
        parts("the tenth is as it was", x, 9, 0, 0, 0, 10, 0, 2);
        x.drop(0);
        Check.due("there is room for one", x.rule(1, 1, 1, 1, 1), 9);
        Check.due("there is room for no more", x.rule(1, 1, 1, 1, 1), FULL);
    }

    private static void whom() {
        RingMeets x = Rings.full();
        for (int rule : new int[] {0, 9}) {
            int was = x.of(rule, 5);
            for (int v : new int[] {0, 0, 1, 2, 2, 1, 0, 2}) {
                Check.due("whom(" + rule + ", " + v + ")", x.whom(rule, v), was);
                Check.due("it is for", x.of(rule, 5), v);
                was = v;
            }
        }
        for (int rule = 1; rule < 9; rule++) {
            Check.due("the others are as they were", x.of(rule, 5), (rule + 2) % 3);
        }
    }

    private static void whomRefused() {
        RingMeets x = new RingMeets();
        for (int v : new int[] {0, 2, 3, -1}) {
            Check.due("no RULES: whom(0, " + v + ")", x.whom(0, v), UNKNOWN);
        }
        for (int i = 0; i < 3; i++) {
            x.rule(0, 0, 0, 1, 0);
        }
        for (int rule : new int[] {-1, 3, 9, 10, 32, LOW, HIGH}) {
            Check.due("whom(" + rule + ", 0)", x.whom(rule, 0), UNKNOWN);
            Check.due("whom(" + rule + ", 3)", x.whom(rule, 3), UNKNOWN);
        }
        for (int v : new int[] {-1, 3, LOW, HIGH}) {
            Check.due("whom(2, " + v + ")", x.whom(2, v), OUTSIDE);
            Check.due("it is for both still", x.of(2, 5), 2);
        }
    }

    private static RingMeets told(int rules) {
        RingMeets x = new RingMeets();
        for (int i = 0; i < rules; i++) {
            x.rule(i % 6, i % 5, i % 3, i + 1, (i + 1) % 3);
            x.whom(i, (i + 2) % 3);
        }
        return x;
    }

    /** The first, one between and the last one of every list go. */
    private static void drop() {
        for (int rules = 1; rules <= 10; rules++) {
            for (int gone : new int[] {0, rules / 2, rules - 1}) {
                RingMeets x = told(rules);
                String name = gone + " of " + rules;
                Check.due(name + " goes", x.drop(gone), rules - 1);
                Check.due(name + ": RULES", x.count(4), rules - 1);
                for (int rule = 0; rule < rules - 1; rule++) {
                    int i = rule < gone ? rule : rule + 1;
                    parts(name, x, rule, i % 6, i % 5, i % 3, i + 1, (i + 1) % 3, (i + 2) % 3);
                }
                Check.due(name + ": the last number is free", x.of(rules - 1, 0), UNKNOWN);
            }
        }
    }

    private static void dropUnknown() {
        RingMeets x = new RingMeets();
        Check.due("no RULES", x.drop(0), UNKNOWN);
        x = told(10);
        for (int rule : new int[] {-1, 10, 32, LOW, HIGH}) {
            Check.due("drop(" + rule + ")", x.drop(rule), UNKNOWN);
        }
        Check.due("drop(9)", x.drop(9), 9);
        Check.due("drop(9) again", x.drop(9), UNKNOWN);
        for (int left = 8; left >= 0; left--) {
            Check.due("drop(0)", x.drop(0), left);
        }
        Check.due("none is left", x.drop(0), UNKNOWN);
        Check.due("RULES", x.count(4), 0);
    }

    private static void of() {
        RingMeets x = told(10);
        for (int i = 0; i < 10; i++) {
            parts("of ten", x, i, i % 6, i % 5, i % 3, i + 1, (i + 1) % 3, (i + 2) % 3);
        }
    }

    private static void ofRefused() {
        RingMeets x = new RingMeets();
        for (int what : new int[] {0, 5, 6, -1}) {
            Check.due("no RULES: of(0, " + what + ")", x.of(0, what), UNKNOWN);
        }
        x = told(9);
        for (int rule : new int[] {-1, 9, 10, 32, LOW, HIGH}) {
            for (int what : new int[] {0, 5, 6, -1}) {
                Check.due("of(" + rule + ", " + what + ")", x.of(rule, what), UNKNOWN);
            }
        }
        for (int what : new int[] {-1, 6, LOW, HIGH}) {
            Check.due("of(0, " + what + ")", x.of(0, what), OUTSIDE);
            Check.due("of(8, " + what + ")", x.of(8, what), OUTSIDE);
        }
    }

    private static void doings(String name, RingMeets x, int cell, int... due) {
        for (int what = 0; what < due.length; what++) {
            Check.due(name + ": does(" + cell + ", " + what + ")", x.does(cell, what), due[what]);
        }
    }

    private static void does() {
        doings("no RULE", Rings.on(10, 9), 9, 1, 1, NONE, WAIT, 9);
        doings("WAIT", Rings.doing(WAIT, 10, 9, 1), 9, 1, 0, 0, WAIT, 9);
        doings("GO up over the edge", Rings.doing(GO, 10, 9, 1), 9, 1, 0, 0, GO, 0);
        doings("GO down over the edge", Rings.doing(GO, 10, 0, 8), 0, 0, 0, 0, GO, 9);
        doings("FLEE down over the edge", Rings.doing(FLEE, 10, 0, 2), 0, 1, 0, 0, FLEE, 9);
        doings("FLEE up over the edge", Rings.doing(FLEE, 10, 9, 7), 9, 0, 0, 0, FLEE, 0);
        doings("EVEN, GO", Rings.doing(GO, 10, 4, 9), 9, 1, 1, 0, GO, 0);
        doings("EVEN, FLEE", Rings.doing(FLEE, 10, 0, 5), 0, 1, 1, 0, FLEE, 9);
        doings("the only one", Rings.doing(GO, 9, 8), 8, 1, 1, 0, GO, 0);
        RingMeets ten = Rings.on(10, 0, 4);
        for (int i = 0; i < 9; i++) {
            ten.rule(5, 0, 0, 10, FLEE);
        }
        ten.rule(2, 1, 1, 6, GO);
        doings("the tenth RULE", ten, 4, 0, 0, 9, GO, 3);
        doings("the tenth RULE", ten, 0, 1, 0, 9, GO, 1);
        Check.due("telling moves nobody", ten.count(2), 17);
    }

    private static void doesRefused() {
        RingMeets x = Rings.going(9, 0, 8);
        for (int what : new int[] {0, 2, 4, 5, -1}) {
            for (int cell : new int[] {-1, 9, 10, 32, LOW, HIGH}) {
                Check.due("no CELL: does(" + cell + ", " + what + ")", x.does(cell, what), UNKNOWN);
            }
            Check.due("no STAND: does(1, " + what + ")", x.does(1, what), UNKNOWN);
        }
        for (int what : new int[] {-1, 5, LOW, HIGH}) {
            Check.due("does(8, " + what + ")", x.does(8, what), OUTSIDE);
        }
        x.step(1 << 8);
        Check.due("it has gone", x.does(8, 0), UNKNOWN);
    }

    private static void step() {
        RingMeets none = new RingMeets();
        Check.due("nobody: no STANDS", none.step(0), 0);
        RingMeets x = Rings.on(10, 0, 1, 4);
        x.rule(3, 0, 0, 3, GO);
        Check.due("of no STANDS", x.step(0), 3);
        Check.due("all stay", x.count(2), 19);
        Check.due("of one that WAITS", x.step(16), 3);
        Check.due("it stays", x.count(2), 19);
        Check.due("of one that WAITS and one that goes", x.step(17), 2);
        Check.due("0 is on 1 now", x.count(2), 18);
        Check.due("two on 1", x.count(11), 2);
        RingMeets one = Rings.going(9, 8, 8, 8, 8, 8);
        Check.due("of the only one", one.step(1 << 8), 1);
        Check.due("all five go", one.count(10), 5);
        RingMeets all = Rings.on(10, 0, 2, 4, 6, 8);
        all.rule(5, 4, 1, 2, FLEE);
        Check.due("of five STANDS", all.step(1 + 4 + 16 + 64 + 256), 5);
        Check.due("all flee down", all.count(2), 2 + 8 + 32 + 128 + 512);
    }

    private static void stepOutside() {
        RingMeets x = Rings.going(8, 0, 3, 7);
        int stands = 1 + 8 + 128;
        for (int bit = 0; bit < 32; bit++) {
            if ((stands >> bit & 1) == 0) {
                Check.due("bit " + bit + " alone", x.step(1 << bit), OUTSIDE);
                Check.due("bit " + bit + " with all STANDS", x.step(stands | 1 << bit), OUTSIDE);
            }
        }
        Check.due("-1", x.step(-1), OUTSIDE);
        Check.due("the greatest", x.step(HIGH), OUTSIDE);
        Check.due("all stay", x.count(2), stands);
        RingMeets nobody = new RingMeets();
        Check.due("nobody: below 0", nobody.step(LOW), OUTSIDE);
        Check.due("nobody: CELL 0", nobody.step(1), OUTSIDE);
        RingMeets ten = Rings.going(10, 9, 8);
        Check.due("the last of ten CELLS is there", ten.step(1 << 9), 1);
        Check.due("there is no CELL 10", ten.step(1 << 10), OUTSIDE);
    }
}
