/** Objects to ask, and all that an object tells. */
final class Rings {
    static final int UNKNOWN = -1, OUTSIDE = -2, STATE = -3, FULL = -4, NONE = -6;
    static final int ONE = 0, ALL = 1, ANY = 2;
    static final int WAIT = 0, GO = 1, FLEE = 2;
    static final int LOW = Integer.MIN_VALUE, HIGH = Integer.MAX_VALUE;

    private Rings() {
    }

    /** A CELL that is named twice has two WALKERS, and so on. */
    static RingMeets on(int cells, int... walkers) {
        RingMeets x = new RingMeets();
        x.ring(cells);
        for (int cell : walkers) {
            x.stand(cell, x.count(10 + cell) + 1);
        }
        return x;
    }

    /** One RULE: whoever sees a STAND nearer than ten CELLS does it. */
    static RingMeets doing(int done, int cells, int... walkers) {
        RingMeets x = on(cells, walkers);
        x.rule(0, 0, 0, 10, done);
        return x;
    }

    static RingMeets going(int cells, int... walkers) {
        return doing(GO, cells, walkers);
    }

    /** Five WALKERS and ten RULES, all different; both IMAGES are kept, and differ. */
    static RingMeets full() {
        RingMeets x = on(4, 3, 3);
        x.rule(1, 0, 2, 1, GO);
        x.image(1);
        x.ring(9);
        x.stand(8, 1);
        x.drop(0);
        x.image(0);
        x.ring(10);
        x.stand(0, 2);
        x.stand(4, 1);
        x.stand(9, 2);
        for (int i = 0; i < 10; i++) {
            x.rule(i % 6, i % 5, i % 3, 10 - i, (i + 1) % 3);
            x.whom(i, (i + 2) % 3);
        }
        return x;
    }

    /** N, WALKERS, RULES, as the object tells them; restores nothing. */
    static String now(RingMeets x) {
        StringBuilder told = new StringBuilder();
        for (int what = 0; what < 20; what++) {
            told.append(x.count(what)).append(' ');
        }
        for (int rule = 0; rule < x.count(4); rule++) {
            told.append("/ ");
            for (int what = 0; what < 6; what++) {
                told.append(x.of(rule, what)).append(' ');
            }
        }
        return told.toString();
    }

    /** What is now and what both IMAGES keep: the object is not what it was behind that. */
    static String whole(RingMeets x) {
        return now(x) + "| " + x.restore(0) + " " + now(x) + "| " + x.restore(1) + " " + now(x);
    }
}
