/** Promises 1 to 5: a new object, ring, stand, gap, shape. */
final class RingTest {
    private static final int UNKNOWN = -1, OUTSIDE = -2, FULL = -4, NONE = -6;

    public static void main(String[] args) {
        newObject();
        ring();
        stand();
        gap();
        shapes();
        Check.end();
    }

    private static RingMeets on(int cells, int... stands) {
        RingMeets x = new RingMeets();
        x.ring(cells);
        for (int cell : stands) {
            x.stand(cell, 1);
        }
        return x;
    }

    private static void newObject() {
        RingMeets x = new RingMeets();
        int[] due = {8, 0, 0, 0, 0, 0};
        for (int what = 0; what < due.length; what++) {
            Check.due("new: count(" + what + ")", x.count(what), due[what]);
        }
        for (int cell = 0; cell < 10; cell++) {
            Check.due("new: walkers on " + cell, x.count(10 + cell), 0);
        }
        Check.due("new: restore(0)", x.restore(0), -3);
        Check.due("new: restore(1)", x.restore(1), -3);
    }

    private static void ring() {
        RingMeets x = on(8, 1, 7);
        x.rule(0, 0, 0, 10, 1);
        int[] bad = {2, 11, 0, -1, Integer.MIN_VALUE, Integer.MAX_VALUE};
        for (int v : bad) {
            Check.due("ring(" + v + ")", x.ring(v), OUTSIDE);
        }
        Check.due("a refused ring changes nothing", x.count(2), 130);
        Check.due("ring(3)", x.ring(3), 8);
        Check.due("all walkers go", x.count(1), 0);
        Check.due("no stands", x.count(2), 0);
        Check.due("rules stay", x.count(4), 1);
        Check.due("N", x.count(0), 3);
        Check.due("cell 3 is not there", x.stand(3, 1), UNKNOWN);
        Check.due("ring(10)", x.ring(10), 3);
        Check.due("cell 9 is there", x.stand(9, 1), 0);
        Check.due("ring(10) again", x.ring(10), 10);
        Check.due("walkers go though N stays", x.count(1), 0);
        x.stand(9, 2);
        x.ring(4);
        x.ring(10);
        Check.due("nobody comes back", x.count(19), 0);
    }

    private static void stand() {
        RingMeets x = new RingMeets();
        Check.due("stand(-1, 9)", x.stand(-1, 9), UNKNOWN);
        Check.due("stand(8, 9)", x.stand(8, 9), UNKNOWN);
        Check.due("stand(min, 0)", x.stand(Integer.MIN_VALUE, 0), UNKNOWN);
        Check.due("stand(7, 6)", x.stand(7, 6), OUTSIDE);
        Check.due("stand(7, -1)", x.stand(7, -1), OUTSIDE);
        Check.due("stand(7, max)", x.stand(7, Integer.MAX_VALUE), OUTSIDE);
        Check.due("stand(7, 3)", x.stand(7, 3), 0);
        Check.due("stand(0, 3)", x.stand(0, 3), FULL);
        Check.due("a refused stand changes nothing", x.count(10), 0);
        Check.due("stand(0, 2)", x.stand(0, 2), 0);
        Check.due("stand(7, 4)", x.stand(7, 4), FULL);
        Check.due("stand(7, 3) again", x.stand(7, 3), 3);
        Check.due("stand(1, 0) when all are there", x.stand(1, 0), 0);
        Check.due("stand(1, 1) when all are there", x.stand(1, 1), FULL);
        Check.due("stand(7, 0)", x.stand(7, 0), 3);
        Check.due("walkers", x.count(1), 2);
        Check.due("stands", x.count(2), 1);
        Check.due("towers", x.count(3), 1);
    }

    private static void gap() {
        RingMeets x = on(10, 1, 2, 5, 9);
        int[][] up = {{1, 3, 4, 2}, {3, 4, 2, 1}, {4, 2, 1, 3}, {2, 1, 3, 4}};
        int[][] down = {{2, 4, 3, 1}, {1, 2, 4, 3}, {3, 1, 2, 4}, {4, 3, 1, 2}};
        int[][] view = {up[0], down[1], down[2], up[3]};
        int[] cells = {1, 2, 5, 9};
        for (int s = 0; s < 4; s++) {
            for (int i = 0; i < 4; i++) {
                Check.due("gap(" + cells[s] + ", 0, " + i + ")", x.gap(cells[s], 0, i), up[s][i]);
                Check.due("gap(" + cells[s] + ", 1, " + i + ")", x.gap(cells[s], 1, i), down[s][i]);
                Check.due("gap(" + cells[s] + ", 2, " + i + ")", x.gap(cells[s], 2, i), view[s][i]);
            }
        }
        for (int what = 0; what < 3; what++) {
            Check.due("how many GAPS", x.gap(1, what, -1), 4);
            Check.due("place 4", x.gap(1, what, 4), NONE);
            Check.due("place max", x.gap(1, what, Integer.MAX_VALUE), NONE);
            Check.due("place -2", x.gap(1, what, -2), NONE);
            Check.due("place min", x.gap(1, what, Integer.MIN_VALUE), NONE);
        }
        Check.due("no STAND ahead of a bad what", x.gap(0, 3, 0), UNKNOWN);
        Check.due("no CELL", x.gap(10, 0, 0), UNKNOWN);
        Check.due("no CELL, far", x.gap(33, 0, 0), UNKNOWN);
        Check.due("no CELL, below", x.gap(-1, 0, 0), UNKNOWN);
        Check.due("a bad what ahead of a bad place", x.gap(1, 3, 9), OUTSIDE);
        Check.due("what = -1", x.gap(1, -1, 0), OUTSIDE);
        RingMeets one = on(10, 4);
        Check.due("one STAND: how many", one.gap(4, 0, -1), 1);
        Check.due("one STAND up", one.gap(4, 0, 0), 10);
        Check.due("one STAND down", one.gap(4, 1, 0), 10);
        Check.due("one STAND view", one.gap(4, 2, 0), 10);
        Check.due("one STAND place 1", one.gap(4, 2, 1), NONE);
    }

    private static void shape(String name, RingMeets x, int... due) {
        for (int what = 0; what < due.length; what++) {
            Check.due(name + ": shape(" + what + ")", x.shape(what), due[what]);
        }
    }

    private static void shapes() {
        shape("nobody", on(8), 0, 0, 0, 0, 0, NONE);
        shape("one", on(8, 3), 0, 1, 0, 1, 1, 8);
        shape("a square", on(8, 0, 2, 4, 6), 1, 1, 0, 4, 1, 2);
        shape("all of three", on(3, 0, 1, 2), 1, 1, 0, 3, 1, 1);
        shape("two beside", on(5, 0, 1), 0, 1, 0, 0, 1, 5);
        shape("two afar", on(10, 2, 7), 1, 1, 0, 2, 1, 5);
        shape("two afar, of CELL 0", on(6, 0, 3), 1, 1, 0, 2, 1, 3);
        shape("two afar, of the last CELL", on(6, 2, 5), 1, 1, 0, 2, 1, 3);
        shape("rigid", on(7, 0, 1, 3), 0, 0, 1, 0, 3, 7);
        shape("mirrored", on(8, 0, 3, 5), 0, 1, 0, 1, 2, 8);
        shape("pairs", on(10, 0, 1, 5, 6), 1, 1, 0, 0, 1, 5);
        shape("pairs, mirrored between STANDS", on(10, 0, 1, 4, 7), 0, 1, 0, 0, 2, 10);
        shape("five", on(10, 0, 2, 4, 6, 8), 1, 1, 0, 5, 1, 2);
        RingMeets tower = on(7, 0, 1, 3);
        tower.stand(0, 3);
        shape("TOWERS are not seen", tower, 0, 0, 1, 0, 3, 7);
        for (int what : new int[] {-1, 6, Integer.MIN_VALUE, Integer.MAX_VALUE}) {
            Check.due("shape(" + what + ")", tower.shape(what), OUTSIDE);
        }
    }
}
