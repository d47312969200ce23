/** Promises 6 to 11: rule, whom, drop, of, does, step. */
final class RulesTest {
    private static final int UNKNOWN = -1, OUTSIDE = -2, FULL = -4, NONE = -6;
    private static final int LOW = Integer.MIN_VALUE, HIGH = Integer.MAX_VALUE;

    public static void main(String[] args) {
        rule();
        whom();
        drop();
        of();
        fits();
        does();
        step();
        stepTowers();
        Check.end();
    }

    private static RingMeets on(int cells, int... stands) {
        RingMeets x = new RingMeets();
        x.ring(cells);
        for (int cell : stands) {
            x.stand(cell, x.count(10 + cell) + 1);
        }
        return x;
    }

    private static void parts(String name, RingMeets x, int rule, int... due) {
        for (int what = 0; what < due.length; what++) {
            Check.due(name + ": of(" + rule + ", " + what + ")", x.of(rule, what), due[what]);
        }
    }

    private static void rule() {
        RingMeets x = new RingMeets();
        int[] least = {0, 0, 0, 1, 0};
        int[] most = {5, 4, 2, 10, 2};
        for (int i = 0; i < 5; i++) {
            for (int v : new int[] {least[i] - 1, most[i] + 1, LOW, HIGH}) {
                int[] a = least.clone();
                a[i] = v;
                Check.due("rule, part " + i + " = " + v, x.rule(a[0], a[1], a[2], a[3], a[4]), OUTSIDE);
            }
        }
        Check.due("refused rules are not kept", x.count(4), 0);
        Check.due("least", x.rule(0, 0, 0, 1, 0), 0);
        Check.due("most", x.rule(5, 4, 2, 10, 2), 1);
        parts("least", x, 0, 0, 0, 0, 1, 0, 2);
        parts("most", x, 1, 5, 4, 2, 10, 2, 2);
        for (int i = 2; i < 10; i++) {
            Check.due("rule " + i, x.rule(i % 6, 1, 1, i, 1), i);
        }
        Check.due("the eleventh", x.rule(0, 0, 0, 1, 0), FULL);
        Check.due("the eleventh, bad", x.rule(0, 0, 0, 0, 0), OUTSIDE);
        Check.due("ten rules", x.count(4), 10);
        parts("the tenth", x, 9, 3, 1, 1, 9, 1, 2);
        x.drop(4);
        Check.due("one more again", x.rule(4, 4, 2, 8, 2), 9);
        parts("one more again", x, 9, 4, 4, 2, 8, 2, 2);
    }

    private static void whom() {
        RingMeets x = new RingMeets();
        Check.due("no rule ahead of a bad v", x.whom(0, 3), UNKNOWN);
        x.rule(0, 0, 0, 10, 1);
        x.rule(0, 0, 0, 10, 1);
        for (int r : new int[] {-1, 2, LOW, HIGH}) {
            Check.due("whom(" + r + ", 0)", x.whom(r, 0), UNKNOWN);
        }
        for (int v : new int[] {-1, 3, LOW, HIGH}) {
            Check.due("whom(0, " + v + ")", x.whom(0, v), OUTSIDE);
        }
        Check.due("whom(0, 0)", x.whom(0, 0), 2);
        Check.due("whom(0, 1)", x.whom(0, 1), 0);
        Check.due("whom(0, 2)", x.whom(0, 2), 1);
        Check.due("whom(0, 1) again", x.whom(0, 1), 2);
        Check.due("kept", x.of(0, 5), 1);
        Check.due("the other one as it was", x.of(1, 5), 2);
    }

    private static void drop() {
        RingMeets x = new RingMeets();
        for (int i = 0; i < 10; i++) {
            x.rule(i % 6, i % 5, i % 3, i + 1, i % 3);
            x.whom(i, i % 3);
        }
        for (int r : new int[] {-1, 10, LOW, HIGH}) {
            Check.due("drop(" + r + ")", x.drop(r), UNKNOWN);
        }
        Check.due("drop(3)", x.drop(3), 9);
        for (int i = 0; i < 9; i++) {
            int was = i < 3 ? i : i + 1;
            parts("behind drop", x, i, was % 6, was % 5, was % 3, was + 1, was % 3, was % 3);
        }
        Check.due("the last number is free", x.of(9, 0), UNKNOWN);
        Check.due("drop(8)", x.drop(8), 8);
        Check.due("drop(8) again", x.drop(8), UNKNOWN);
        Check.due("drop(0)", x.drop(0), 7);
        Check.due("the first is the second now", x.of(0, 3), 2);
        for (int left = 6; left >= 0; left--) {
            Check.due("drop to " + left, x.drop(0), left);
        }
        Check.due("drop of none", x.drop(0), UNKNOWN);
    }

    private static void of() {
        RingMeets x = new RingMeets();
        Check.due("no rule ahead of a bad what", x.of(0, 6), UNKNOWN);
        x.rule(1, 2, 1, 7, 2);
        x.whom(0, 0);
        parts("of", x, 0, 1, 2, 1, 7, 2, 0);
        for (int what : new int[] {-1, 6, LOW, HIGH}) {
            Check.due("of(0, " + what + ")", x.of(0, what), OUTSIDE);
        }
        for (int r : new int[] {-1, 1, LOW, HIGH}) {
            Check.due("of(" + r + ", 0)", x.of(r, 0), UNKNOWN);
        }
    }

    /** One rule alone, asked of the STANDS 0, 1, 3 on seven CELLS: VIEW of 0 is 1, 2, 4. */
    private static void fits() {
        int[] view = {1, 2, 4};
        for (int stands = 0; stands <= 5; stands++) {
            for (int place = 0; place <= 4; place++) {
                for (int how = 0; how <= 2; how++) {
                    for (int number = 1; number <= 10; number++) {
                        RingMeets x = on(7, 0, 1, 3);
                        x.rule(stands, place, how, number, 1);
                        boolean so = (stands == 0 || stands == 3) && place < 3
                                && (how == 0 ? view[place] < number
                                        : how == 1 ? view[place] == number : view[place] > number);
                        String name = "rule(" + stands + ", " + place + ", " + how + ", " + number + ")";
                        Check.due(name + " fits", x.does(0, 2), so ? 0 : NONE);
                        Check.due(name + " is done", x.does(0, 3), so ? 1 : 0);
                    }
                }
            }
        }
        for (int whom = 0; whom <= 2; whom++) {
            RingMeets x = on(7, 0, 0, 3);
            x.rule(0, 0, 2, 1, 1);
            x.whom(0, whom);
            Check.due("for " + whom + ": a TOWER", x.does(0, 2), whom == 0 ? NONE : 0);
            Check.due("for " + whom + ": a single one", x.does(3, 2), whom == 1 ? NONE : 0);
        }
    }

    private static void doings(String name, RingMeets x, int cell, int... due) {
        for (int what = 0; what < due.length; what++) {
            Check.due(name + ": does(" + cell + ", " + what + ")", x.does(cell, what), due[what]);
        }
    }

    private static void does() {
        RingMeets x = on(7, 0, 1, 3);
        doings("no rules", x, 0, 1, 0, NONE, 0, 0);
        x.rule(0, 0, 2, 1, 2);
        x.rule(3, 1, 1, 2, 1);
        x.rule(0, 0, 0, 10, 0);
        doings("rigid", x, 0, 1, 0, 1, 1, 1);
        doings("rigid", x, 1, 0, 0, 2, 0, 1);
        doings("rigid", x, 3, 0, 0, 0, 2, 4);
        x.whom(0, 1);
        doings("the first one is for TOWERS", x, 3, 0, 0, 2, 0, 3);
        x.stand(3, 2);
        doings("a TOWER", x, 3, 0, 0, 0, 2, 4);
        Check.due("no STAND ahead of a bad what", x.does(2, 5), UNKNOWN);
        for (int cell : new int[] {-1, 7, 32, LOW, HIGH}) {
            Check.due("does(" + cell + ", 0)", x.does(cell, 0), UNKNOWN);
        }
        for (int what : new int[] {-1, 5, LOW, HIGH}) {
            Check.due("does(0, " + what + ")", x.does(0, what), OUTSIDE);
        }
        RingMeets even = on(6, 0, 3);
        even.rule(2, 1, 1, 3, 1);
        doings("EVEN goes up", even, 0, 1, 1, 0, 1, 1);
        doings("EVEN goes up", even, 3, 1, 1, 0, 1, 4);
        even.drop(0);
        even.rule(2, 1, 1, 3, 2);
        doings("EVEN flees down", even, 0, 1, 1, 0, 2, 5);
        doings("EVEN flees down", even, 3, 1, 1, 0, 2, 2);
        RingMeets edge = on(10, 9, 2);
        edge.rule(0, 0, 0, 10, 1);
        doings("over the edge up", edge, 9, 1, 0, 0, 1, 0);
        doings("towards the edge down", edge, 2, 0, 0, 0, 1, 1);
        edge.stand(2, 0);
        edge.stand(0, 1);
        doings("over the edge down", edge, 0, 0, 0, 0, 1, 9);
        RingMeets one = on(10, 9);
        one.rule(1, 0, 1, 10, 1);
        doings("one STAND", one, 9, 1, 1, 0, 1, 0);
        Check.due("telling moves nobody", one.count(2), 512);
    }

    private static void step() {
        RingMeets x = on(8, 0, 3, 5);
        x.rule(0, 0, 1, 2, 1);
        for (int set : new int[] {2, 3, 1 << 8, 1 << 9, 1 << 31, 1 << 30, -1, LOW, 1 | LOW, HIGH}) {
            Check.due("step(" + set + ")", x.step(set), OUTSIDE);
        }
        Check.due("a refused step changes nothing", x.count(2), 41);
        Check.due("step(0)", x.step(0), 3);
        Check.due("step(0) changes nothing", x.count(2), 41);
        Check.due("one that WAITS", x.step(1), 3);
        Check.due("it waited", x.count(2), 41);
        Check.due("all three", x.step(41), 2);
        Check.due("3 and 5 are on 4", x.count(2), 17);
        Check.due("a TOWER", x.count(3), 16);
        Check.due("of two", x.count(14), 2);
        RingMeets pass = on(5, 0, 1, 1);
        pass.rule(0, 0, 0, 10, 1);
        Check.due("they pass", pass.step(3), 2);
        Check.due("two are on 0", pass.count(10), 2);
        Check.due("one is on 1", pass.count(11), 1);
        RingMeets one = on(10, 9);
        one.rule(0, 0, 0, 1, 1);
        one.rule(0, 0, 2, 1, 1);
        Check.due("one STAND goes", one.step(512), 1);
        Check.due("over the edge", one.count(2), 1);
        RingMeets nobody = on(4);
        Check.due("nobody steps", nobody.step(0), 0);
        Check.due("nobody is there", nobody.step(1), OUTSIDE);
    }

    private static void stepTowers() {
        RingMeets x = on(6, 0, 0, 0, 2, 2);
        x.rule(0, 0, 0, 10, 1);
        x.whom(0, 1);
        x.rule(0, 0, 0, 10, 2);
        Check.due("both TOWERS meet", x.step(5), 1);
        Check.due("five on 1", x.count(11), 5);
        RingMeets y = on(6, 0, 0, 0, 2);
        y.rule(0, 0, 0, 10, 1);
        y.whom(0, 1);
        y.rule(0, 0, 0, 10, 2);
        Check.due("a TOWER goes, a single one flees", y.step(5), 2);
        Check.due("three on 1", y.count(11), 3);
        Check.due("one on 3", y.count(13), 1);
        RingMeets chase = on(7, 0, 1, 3);
        chase.rule(0, 0, 0, 10, 1);
        Check.due("a STAND comes to where one has left", chase.step(11), 3);
        Check.due("none has met", chase.count(3), 0);
        Check.due("on 0, 1, 2", chase.count(2), 7);
    }
}
