/** Promises 1 to 5: each sentence that names a boundary case. */
final class RingEdgesTest {
    private static final int UNKNOWN = Rings.UNKNOWN, OUTSIDE = Rings.OUTSIDE, STATE = Rings.STATE;
    private static final int FULL = Rings.FULL, NONE = Rings.NONE;
    private static final int LOW = Rings.LOW, HIGH = Rings.HIGH;

    private RingEdgesTest() {
    }

    public static void main(String[] args) {
        Edge.of("`RingMeets()`: Eight CELLS, nobody, no RULES; no IMAGE is kept.", RingEdgesTest::newObject);
        Edge.of("`int ring(int v)`: N is v (or as it was): which it was; all WALKERS go.", RingEdgesTest::ring);
        Edge.of("all WALKERS go. OUTSIDE.", RingEdgesTest::ringOutside);
        Edge.of("On a CELL there are n WALKERS, 0 to 5: how many there were.", RingEdgesTest::stand);
        Edge.of("how many there were. UNKNOWN; OUTSIDE;", RingEdgesTest::standRefused);
        Edge.of("FULL: there would be more than 5 in all.", RingEdgesTest::standFull);
        Edge.of("The number at place i, from 0 on, of GAPS up of a STAND (what = 0), GAPS down (1), VIEW (2)", RingEdgesTest::gap);
        Edge.of("i = -1: how many there are;", RingEdgesTest::gapHowMany);
        Edge.of("NONE: there is none such (i below -1, too).", RingEdgesTest::gapNone);
        Edge.of("UNKNOWN: there is no such CELL, or no STAND; OUTSIDE: what.", RingEdgesTest::gapRefused);
        Edge.of("RIGID (2: 1, 0), how many STANDS are EVEN (3), how many different VIEWS there are (4)", RingEdgesTest::shapeCounts);
        Edge.of("by how many CELLS up, 1 to N, at the fewest, all STANDS come to CELLS of STANDS (5; NONE: there are no STANDS).",
                RingEdgesTest::shapeTurn);
        Edge.of("(5; NONE: there are no STANDS). OUTSIDE.", RingEdgesTest::shapeOutside);
        Check.end();
    }

    private static void newObject() {
        RingMeets x = new RingMeets();
        int[] due = {8, 0, 0, 0, 0, 0};
        for (int what = 0; what < 6; what++) {
            Check.due("count(" + what + ")", x.count(what), due[what]);
        }
        for (int what = 10; what < 20; what++) {
            Check.due("count(" + what + ")", x.count(what), 0);
        }
        Check.due("the last CELL", x.stand(7, 0), 0);
        Check.due("no CELL behind it", x.stand(8, 0), UNKNOWN);
        Check.due("no RULE 0", x.of(0, 0), UNKNOWN);
        Check.due("no IMAGE 0", x.restore(0), STATE);
        Check.due("no IMAGE 1", x.restore(1), STATE);
        RingMeets other = Rings.full();
        Check.due("one object is not another", other.count(1) + new RingMeets().count(1), 5);
    }

    private static void ring() {
        RingMeets x = new RingMeets();
        int was = 8;
        for (int v : new int[] {3, 10, 3, 4, 9, 10}) {
            x.stand(0, 2);
            x.stand(was - 1, 1);
            Check.due("ring(" + v + ")", x.ring(v), was);
            Check.due("N", x.count(0), v);
            Check.due("all WALKERS go", x.count(1), 0);
            Check.due("there are no STANDS", x.count(2), 0);
            was = v;
        }
        x.stand(9, 3);
        x.rule(0, 0, 0, 10, 1);
        Check.due("as it was", x.ring(10), 10);
        Check.due("as it was: all WALKERS go", x.count(1), 0);
        Check.due("as it was: from the last CELL", x.count(19), 0);
        Check.due("RULES stay", x.count(4), 1);
        x.stand(9, 5);
        x.ring(3);
        x.ring(10);
        Check.due("none comes back with the CELL", x.count(19), 0);
        Check.due("there is room for five", x.stand(0, 5), 0);
    }

    private static void ringOutside() {
        RingMeets x = Rings.on(5, 4);
        for (int v : new int[] {2, 11, 1, 0, -1, -3, LOW, HIGH, 8 + (1 << 8), 1 << 31 | 8}) {
            Check.due("ring(" + v + ")", x.ring(v), OUTSIDE);
            Check.due("N behind ring(" + v + ")", x.count(0), 5);
            Check.due("WALKERS behind ring(" + v + ")", x.count(14), 1);
        }
    }

    private static void stand() {
        RingMeets x = new RingMeets();
        int was = 0;
        for (int n : new int[] {0, 5, 0, 1, 2, 2, 4, 3, 5, 5, 0, 0}) {
            Check.due("stand(7, " + n + ")", x.stand(7, n), was);
            Check.due("there are " + n, x.count(17), n);
            was = n;
        }
    }

    private static void standRefused() {
        RingMeets x = Rings.on(9, 0);
        for (int cell : new int[] {-1, 9, 10, 32, LOW, HIGH}) {
            for (int n : new int[] {0, 1, 5, 6, -1}) {
                Check.due("stand(" + cell + ", " + n + ")", x.stand(cell, n), UNKNOWN);
            }
        }
        for (int n : new int[] {-1, 6, LOW, HIGH, -5}) {
            Check.due("stand(0, " + n + ")", x.stand(0, n), OUTSIDE);
            Check.due("stand(8, " + n + ")", x.stand(8, n), OUTSIDE);
        }
        Check.due("there is one still", x.count(1), 1);
    }

    private static void standFull() {
        for (int there = 0; there <= 5; there++) {
            for (int n = 0; n <= 5; n++) {
                RingMeets x = new RingMeets();
                x.stand(0, there);
                boolean many = there + n > 5;
                Check.due(there + " on 0, stand(1, " + n + ")", x.stand(1, n), many ? FULL : 0);
                Check.due("on 1 there are", x.count(11), many ? 0 : n);
                Check.due(there + " on 0, stand(0, 5)", x.stand(0, 5), many || n == 0 ? there : FULL);
            }
        }
        RingMeets x = Rings.on(8, 0, 1, 2, 3, 4);
        Check.due("one where one is", x.stand(0, 1), 1);
        Check.due("none where nobody is", x.stand(7, 0), 0);
        Check.due("one where nobody is", x.stand(7, 1), FULL);
    }

    private static void row(String name, RingMeets x, int cell, int what, int... due) {
        for (int i = 0; i < due.length; i++) {
            Check.due(name + ": gap(" + cell + ", " + what + ", " + i + ")", x.gap(cell, what, i), due[i]);
        }
    }

    private static void gap() {
        RingMeets x = Rings.on(10, 0, 1, 4, 6, 9);
        row("the first CELL", x, 0, 0, 1, 3, 2, 3, 1, NONE);
        row("the first CELL", x, 0, 1, 1, 3, 2, 3, 1, NONE);
        row("the first CELL", x, 0, 2, 1, 3, 2, 3, 1, NONE);
        row("the last CELL", x, 9, 0, 1, 1, 3, 2, 3, NONE);
        row("the last CELL", x, 9, 1, 3, 2, 3, 1, 1, NONE);
        row("the last CELL", x, 9, 2, 1, 1, 3, 2, 3, NONE);
        row("VIEW is down", x, 1, 0, 3, 2, 3, 1, 1, NONE);
        row("VIEW is down", x, 1, 1, 1, 1, 3, 2, 3, NONE);
        row("VIEW is down", x, 1, 2, 1, 1, 3, 2, 3, NONE);
        RingMeets three = Rings.on(3, 0, 1, 2);
        for (int what = 0; what < 3; what++) {
            row("every CELL of three", three, 2, what, 1, 1, 1, NONE);
        }
        RingMeets one = Rings.on(10, 9, 9, 9, 9, 9);
        for (int what = 0; what < 3; what++) {
            row("all five on one", one, 9, what, 10, NONE);
        }
    }

    private static void gapHowMany() {
        RingMeets x = Rings.on(10);
        for (int stands = 1; stands <= 5; stands++) {
            x.stand(10 - stands, 1);
            for (int what = 0; what < 3; what++) {
                Check.due("of " + stands, x.gap(9, what, -1), stands);
            }
        }
        Check.due("a TOWER is counted once", Rings.on(8, 0, 0, 0, 1).gap(0, 2, -1), 2);
    }

    private static void gapNone() {
        for (int stands = 1; stands <= 5; stands++) {
            RingMeets x = Rings.on(10);
            for (int cell = 0; cell < stands; cell++) {
                x.stand(cell, 1);
            }
            for (int what = 0; what < 3; what++) {
                Check.due("the last place", x.gap(0, what, stands - 1) > 0 ? 1 : 0, 1);
                for (int i : new int[] {stands, stands + 1, 10, 32, HIGH, -2, -3, -32, LOW}) {
                    Check.due("place " + i + " of " + stands, x.gap(0, what, i), NONE);
                }
            }
        }
    }

    private static void gapRefused() {
        RingMeets x = Rings.on(9, 0, 8);
        for (int i : new int[] {0, 1, 2, -1, -2}) {
            for (int cell : new int[] {-1, 9, 10, 32, LOW, HIGH}) {
                Check.due("no CELL " + cell + ", place " + i, x.gap(cell, 0, i), UNKNOWN);
                Check.due("no CELL " + cell + ", no what", x.gap(cell, 3, i), UNKNOWN);
            }
            Check.due("no STAND, place " + i, x.gap(1, 0, i), UNKNOWN);
            Check.due("no STAND, no what, place " + i, x.gap(1, 3, i), UNKNOWN);
            for (int what : new int[] {-1, 3, LOW, HIGH}) {
                Check.due("what = " + what + ", place " + i, x.gap(8, what, i), OUTSIDE);
            }
        }
        x.stand(8, 0);
        Check.due("it is no STAND any more", x.gap(8, 0, 0), UNKNOWN);
    }

    private static void shapeCounts() {
        int[][] due = {{0, 0, 0, 0}, {0, 1, 0, 1}, {1, 1, 0, 5}, {0, 0, 1, 0}, {0, 1, 0, 1}};
        int[] views = {0, 1, 1, 3, 3};
        RingMeets[] asked = {Rings.on(10), Rings.on(10, 9), Rings.on(5, 0, 1, 2, 3, 4), Rings.on(7, 0, 1, 3),
            Rings.on(10, 0, 1, 4, 6, 9)};
        for (int i = 0; i < asked.length; i++) {
            for (int what = 0; what < 4; what++) {
                Check.due("shape(" + what + ") of " + i, asked[i].shape(what), due[i][what]);
            }
            Check.due("shape(4) of " + i, asked[i].shape(4), views[i]);
        }
        Check.due("five VIEWS, all different", Rings.on(10, 0, 1, 2, 4, 7).shape(4), 5);
        Check.due("like VIEWS, one up and one down", Rings.on(5, 0, 1).shape(4), 1);
        Check.due("pairs, of which none is EVEN", Rings.on(10, 0, 1, 5, 6).shape(3), 0);
        Check.due("pairs, all VIEWS alike", Rings.on(10, 0, 1, 5, 6).shape(4), 1);
    }

    private static void shapeTurn() {
        Check.due("no STANDS", Rings.on(3).shape(5), NONE);
        Check.due("all have gone", goneAgain().shape(5), NONE);
        for (int cells = 3; cells <= 10; cells++) {
            Check.due("one of " + cells + ": N", Rings.on(cells, cells - 1).shape(5), cells);
            Check.due("two beside one another of " + cells, Rings.on(cells, cells - 1, 0).shape(5), cells);
        }
        Check.due("every CELL: 1", Rings.on(3, 0, 1, 2).shape(5), 1);
        Check.due("every CELL of five: 1", Rings.on(5, 0, 1, 2, 3, 4).shape(5), 1);
        Check.due("every other CELL: 2", Rings.on(10, 1, 3, 5, 7, 9).shape(5), 2);
        Check.due("thirds", Rings.on(9, 2, 5, 8).shape(5), 3);
        Check.due("halves", Rings.on(10, 4, 9).shape(5), 5);
        Check.due("TOWERS are STANDS", Rings.on(10, 4, 4, 9).shape(5), 5);
        Check.due("some STANDS alone do not do", Rings.on(8, 0, 4, 5).shape(5), 8);
    }

    private static RingMeets goneAgain() {
        RingMeets x = Rings.on(3, 0);
        x.stand(0, 0);
        return x;
    }

    private static void shapeOutside() {
        for (RingMeets x : new RingMeets[] {Rings.on(8), Rings.on(8, 0, 4)}) {
            for (int what : new int[] {-1, 6, 7, LOW, HIGH}) {
                Check.due("shape(" + what + ")", x.shape(what), OUTSIDE);
            }
        }
    }
}
