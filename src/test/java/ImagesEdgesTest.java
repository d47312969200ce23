/** Promises 17 to 19: each sentence that names a boundary case. */
final class ImagesEdgesTest {
    private static final int OUTSIDE = Rings.OUTSIDE, STATE = Rings.STATE;
    private static final int LOW = Rings.LOW, HIGH = Rings.HIGH;
    private static final int[] NO_IMAGES = {-1, 2, 3, LOW, HIGH, 32};

    private ImagesEdgesTest() {
    }

    public static void main(String[] args) {
        Edge.of("All but IMAGES is kept in an IMAGE (0, 1), in place of what was kept there: 1.", ImagesEdgesTest::image);
        Edge.of("in place of what was kept there: 1. OUTSIDE.", ImagesEdgesTest::imageOutside);
        Edge.of("All but IMAGES is as it was when it was kept;", ImagesEdgesTest::restore);
        Edge.of("the IMAGE stays: 1.", ImagesEdgesTest::stays);
        Edge.of("the IMAGE stays: 1. OUTSIDE;", ImagesEdgesTest::restoreOutside);
        Edge.of("STATE: nothing was kept in it.", ImagesEdgesTest::restoreState);
        Edge.of("N (what = 0), WALKERS (1), the set of STANDS (2), of TOWERS (3), RULES (4)", ImagesEdgesTest::count);
        Edge.of("which IMAGES are kept (5: 1 the first, 2 the second, added)", ImagesEdgesTest::countImages);
        Edge.of("WALKERS on CELL what less 10 (10 to 19; 0 also, if it is not there).", ImagesEdgesTest::countCells);
        Edge.of("0 also, if it is not there). OUTSIDE.", ImagesEdgesTest::countOutside);
        Check.end();
    }

    private static void same(String name, RingMeets x, String due) {
        String got = Rings.now(x);
        Check.holds(name + ": " + got + " is " + due, got.equals(due));
    }

    /** What is told of N, WALKERS and RULES, without which IMAGES are kept. */
    private static String scene(RingMeets x) {
        String[] told = Rings.now(x).split(" ");
        told[5] = "";
        return String.join(" ", told);
    }

    private static void image() {
        for (int k = 0; k < 2; k++) {
            RingMeets x = new RingMeets();
            String fresh = scene(x);
            Check.due("a new object is kept: " + k, x.image(k), 1);
            x.ring(3);
            x.stand(2, 5);
            x.rule(0, 0, 0, 1, 0);
            x.restore(k);
            Check.holds("a new object is back: " + k, scene(x).equals(fresh));
            x.stand(7, 5);
            Check.due("in place of what was kept: " + k, x.image(k), 1);
            x.ring(8);
            x.restore(k);
            Check.due("the newer one is back: " + k, x.count(17), 5);
            Check.due("the other one is not kept: " + k, x.restore(1 - k), STATE);
        }
        RingMeets both = Rings.on(10, 9);
        both.image(0);
        both.ring(3);
        both.image(1);
        both.image(0);
        both.restore(0);
        Check.due("the first is as the second", both.count(0), 3);
    }

    private static void imageOutside() {
        for (int k : NO_IMAGES) {
            RingMeets x = Rings.on(5, 4);
            Check.due("image(" + k + ")", x.image(k), OUTSIDE);
            Check.due("none is kept", x.count(5), 0);
            Check.due("not the first", x.restore(0), STATE);
            Check.due("not the second", x.restore(1), STATE);
        }
    }

    private static void restore() {
        RingMeets x = Rings.full();
        String due = Rings.now(x);
        x.image(0);
        x.ring(3);
        x.stand(2, 1);
        for (int left = 9; left >= 0; left--) {
            x.drop(left);
        }
        Check.due("from less of all to all", x.restore(0), 1);
        same("ten CELLS, five WALKERS, ten RULES", x, due);
        RingMeets small = Rings.on(3, 2);
        small.rule(5, 4, 2, 10, 2);
        small.whom(0, 1);
        small.image(1);
        String less = Rings.now(small);
        small.ring(10);
        small.stand(9, 5);
        small.drop(0);
        for (int i = 0; i < 10; i++) {
            small.rule(0, 0, 0, 1, 0);
        }
        Check.due("from all to less of all", small.restore(1), 1);
        same("three CELLS, one WALKER, one RULE", small, less);
        Check.due("CELL 9 is not there", small.stand(9, 0), Rings.UNKNOWN);
        Check.due("RULE 1 is not there", small.of(1, 0), Rings.UNKNOWN);
        Check.due("there is room for four", small.stand(0, 4), 0);
    }

    private static void stays() {
        RingMeets x = Rings.going(10, 0, 9);
        x.image(1);
        String due = Rings.now(x);
        for (int i = 0; i < 4; i++) {
            x.step(1);
            x.whom(0, 0);
            x.rule(0, 0, 0, 1, 0);
            Check.due("again", x.restore(1), 1);
            same("time " + i, x, due);
        }
        x.image(0);
        x.ring(3);
        x.restore(1);
        Check.due("an IMAGE that was kept later stays, too", x.count(5), 3);
        x.image(0);
        x.stand(5, 3);
        x.restore(0);
        same("what is done behind image is not in it", x, due.replaceFirst("^(\\S+ \\S+ \\S+ \\S+ \\S+) 2", "$1 3"));
    }

    private static void restoreOutside() {
        RingMeets none = Rings.on(5, 4);
        RingMeets kept = Rings.full();
        String due = Rings.now(kept);
        for (int k : NO_IMAGES) {
            Check.due("none is kept: restore(" + k + ")", none.restore(k), OUTSIDE);
            Check.due("both are kept: restore(" + k + ")", kept.restore(k), OUTSIDE);
        }
        same("all is as it was", kept, due);
    }

    private static void restoreState() {
        for (int k = 0; k < 2; k++) {
            RingMeets x = Rings.on(5, 4);
            Check.due("nothing is kept: restore(" + k + ")", x.restore(k), STATE);
            x.image(1 - k);
            Check.due("the other one is kept: restore(" + k + ")", x.restore(k), STATE);
            Check.due("all is as it was", x.count(14), 1);
            x.image(k);
            Check.due("it is kept: restore(" + k + ")", x.restore(k), 1);
        }
    }

    private static void counts(String name, RingMeets x, int... due) {
        for (int what = 0; what < due.length; what++) {
            Check.due(name + ": count(" + what + ")", x.count(what), due[what]);
        }
    }

    private static void count() {
        counts("the least", Rings.on(3), 3, 0, 0, 0, 0, 0);
        counts("full", Rings.full(), 10, 5, 1 + 16 + 512, 1 + 512, 10, 3);
        counts("five on five", Rings.on(10, 5, 6, 7, 8, 9), 10, 5, 992, 0, 0, 0);
        counts("five on the last CELL", Rings.on(10, 9, 9, 9, 9, 9), 10, 5, 512, 512, 0, 0);
        counts("two are a TOWER, one is none", Rings.on(4, 0, 3, 3), 4, 3, 9, 8, 0, 0);
    }

    private static void countImages() {
        RingMeets x = new RingMeets();
        Check.due("none", x.count(5), 0);
        x.image(0);
        Check.due("the first", x.count(5), 1);
        x.image(0);
        Check.due("the first again", x.count(5), 1);
        x.image(1);
        Check.due("both", x.count(5), 3);
        x.restore(0);
        Check.due("both still", x.count(5), 3);
        x.ring(4);
        Check.due("both, by another ring", x.count(5), 3);
        RingMeets y = new RingMeets();
        y.image(1);
        Check.due("the second", y.count(5), 2);
    }

    private static void countCells() {
        for (int cells = 3; cells <= 10; cells++) {
            RingMeets x = Rings.on(10, 0, 0, 9, 9, 9);
            Check.due("on CELL 0", x.count(10), 2);
            Check.due("on CELL 9", x.count(19), 3);
            x.ring(cells);
            x.stand(cells - 1, 4);
            for (int what = 10; what < 20; what++) {
                Check.due(cells + " CELLS: count(" + what + ")", x.count(what), what == 9 + cells ? 4 : 0);
            }
        }
    }

    private static void countOutside() {
        for (RingMeets x : new RingMeets[] {new RingMeets(), Rings.full()}) {
            for (int what : new int[] {-1, 6, 7, 8, 9, 20, 21, 42, LOW, HIGH}) {
                Check.due("count(" + what + ")", x.count(what), OUTSIDE);
            }
        }
    }
}
