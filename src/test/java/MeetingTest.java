/** Promises 12 to 16: meets, first, blind, used, all. */
final class MeetingTest {
    private static final int OUTSIDE = -2, STATE = -3, NONE = -6;
    private static final int ONE = 0, ALL = 1, ANY = 2;
    private static final int LOW = Integer.MIN_VALUE, HIGH = Integer.MAX_VALUE;

    public static void main(String[] args) {
        refused();
        met();
        stuck();
        turns();
        towersMatter();
        statesCount();
        first();
        blind();
        used();
        all();
        nothingChanges();
        Check.end();
    }

    private static RingMeets on(int cells, int... stands) {
        RingMeets x = new RingMeets();
        x.ring(cells);
        for (int cell : stands) {
            x.stand(cell, x.count(10 + cell) + 1);
        }
        return x;
    }

    private static RingMeets going(int cells, int... stands) {
        RingMeets x = on(cells, stands);
        x.rule(0, 0, 0, 10, 1);
        return x;
    }

    private static void meets(String name, RingMeets x, int schedule, int... due) {
        for (int what = 0; what < due.length; what++) {
            Check.due(name + ": meets(" + schedule + ", " + what + ")", x.meets(schedule, what), due[what]);
        }
    }

    private static void refused() {
        RingMeets x = new RingMeets();
        for (int bad : new int[] {-1, 3, LOW, HIGH}) {
            Check.due("meets(" + bad + ", 0)", x.meets(bad, 0), OUTSIDE);
            Check.due("first(" + bad + ")", x.first(bad), OUTSIDE);
            Check.due("blind(" + bad + ")", x.blind(bad), OUTSIDE);
            Check.due("used(" + bad + ")", x.used(bad), OUTSIDE);
            Check.due("all(1, " + bad + ", 0)", x.all(1, bad, 0), OUTSIDE);
        }
        for (int bad : new int[] {-1, 5, LOW, HIGH}) {
            Check.due("meets(0, " + bad + ")", x.meets(0, bad), OUTSIDE);
        }
        for (int bad : new int[] {-1, 4, LOW, HIGH}) {
            Check.due("all(1, 0, " + bad + ")", x.all(1, 0, bad), OUTSIDE);
        }
        for (int bad : new int[] {-1, 0, 6, LOW, HIGH}) {
            Check.due("all(" + bad + ", 0, 0)", x.all(bad, 0, 0), OUTSIDE);
        }
        for (int schedule = 0; schedule < 3; schedule++) {
            for (int what = 0; what < 5; what++) {
                Check.due("nobody meets", x.meets(schedule, what), STATE);
            }
            Check.due("nobody is first", x.first(schedule), STATE);
            Check.due("nobody is blind", x.blind(schedule), STATE);
            Check.due("nobody uses", x.used(schedule), STATE);
        }
        x.ring(3);
        Check.due("three on three", x.all(3, 0, 3), 1);
        Check.due("four on three", x.all(4, 0, 3), OUTSIDE);
        Check.due("five on three", x.all(5, 0, 3), OUTSIDE);
        x.ring(4);
        Check.due("four on four", x.all(4, 0, 3), 1);
        Check.due("five on four", x.all(5, 0, 3), OUTSIDE);
    }

    private static void met() {
        for (RingMeets x : new RingMeets[] {going(8, 3), going(8, 3, 3, 3)}) {
            for (int schedule = 0; schedule < 3; schedule++) {
                meets("MET", x, schedule, 0, 0, 0, 1, 0);
                Check.due("MET: first", x.first(schedule), NONE);
                Check.due("MET: blind", x.blind(schedule), 0);
                Check.due("MET: used", x.used(schedule), 0);
            }
        }
    }

    private static void stuck() {
        RingMeets x = on(8, 0, 4);
        for (int schedule = 0; schedule < 3; schedule++) {
            meets("no rules", x, schedule, NONE, NONE, 3, 1, 1);
            Check.due("no rules: first", x.first(schedule), NONE);
            Check.due("no rules: used", x.used(schedule), 0);
        }
        x.rule(2, 0, 1, 4, 1);
        meets("one STEP, then none", x, ONE, NONE, NONE, 3, 3, 2);
        meets("both go for ever", x, ALL, NONE, NONE, 3, 4, 0);
        x.rule(2, 0, 1, 2, 1);
        meets("some ways end without a STEP", x, ONE, NONE, NONE, 3, 3, 2);
    }

    /** 0 and 1 on five CELLS: either one may go to the other, both pass. */
    private static void turns() {
        RingMeets x = going(5, 0, 1);
        meets("beside", x, ONE, 1, 1, 1, 3, 0);
        meets("beside", x, ALL, NONE, NONE, 3, 1, 0);
        meets("beside", x, ANY, 1, NONE, 2, 3, 0);
        RingMeets y = going(5, 0, 2);
        meets("one between", y, ALL, 1, 1, 1, 2, 0);
        meets("one between", y, ANY, 1, NONE, 2, 6, 0);
        meets("one between", y, ONE, 2, 2, 1, 6, 0);
    }

    private static void towersMatter() {
        RingMeets x = on(8, 0, 0, 3);
        x.rule(0, 0, 0, 10, 1);
        x.whom(0, 0);
        meets("the single one comes", x, ALL, 3, 3, 1, 4, 0);
        meets("the single one comes", x, ANY, 3, 3, 1, 4, 0);
        x.whom(0, 1);
        meets("the TOWER comes", x, ONE, 3, 3, 1, 4, 0);
        x.stand(0, 1);
        meets("no TOWER comes", x, ONE, NONE, NONE, 3, 1, 1);
        x.stand(0, 2);
        x.stand(3, 2);
        meets("both TOWERS go", x, ALL, NONE, NONE, 3, 2, 0);
    }

    /** WAYS with the same STANDS differ by their TOWERS, but not by how many stand on one. */
    private static void statesCount() {
        RingMeets x = going(5, 0, 0, 1, 1, 1);
        meets("TOWERS pass", x, ALL, NONE, NONE, 3, 1, 0);
        RingMeets y = going(5, 0, 0, 1);
        meets("a TOWER and a single one pass", y, ALL, NONE, NONE, 3, 2, 0);
        RingMeets z = going(5, 0, 0, 0, 0, 1);
        meets("four and one pass", z, ALL, NONE, NONE, 3, 2, 0);
    }

    private static void first() {
        RingMeets x = going(6, 0, 3);
        Check.due("ONE, either", x.first(ONE), 1);
        Check.due("ALL go round", x.first(ALL), NONE);
        Check.due("ANY: one first", x.first(ANY), 1);
        RingMeets y = going(5, 0, 2);
        Check.due("ALL meet in the middle", y.first(ALL), 5);
        Check.due("ANY: only both meet at once", y.first(ANY), 5);
        Check.due("ONE: the least one", y.first(ONE), 1);
        RingMeets z = on(8, 1, 1, 4);
        z.rule(0, 0, 0, 10, 1);
        z.whom(0, 0);
        Check.due("only the single one goes", z.first(ONE), 16);
        z.rule(0, 0, 0, 10, 2);
        Check.due("the TOWER flees, so ONE lets it stand", z.first(ONE), 16);
        Check.due("ANY lets it stand", z.first(ANY), 16);
        RingMeets never = on(8, 1, 4);
        Check.due("never", never.first(ANY), NONE);
    }

    private static void blind() {
        RingMeets x = on(8, 0, 0, 3);
        x.rule(0, 0, 0, 10, 1);
        x.whom(0, 1);
        for (int schedule = 0; schedule < 3; schedule++) {
            Check.due("they see", x.meets(schedule, 2), 1);
            Check.due("rules for TOWERS fit none", x.blind(schedule), 3);
        }
        x.whom(0, 0);
        Check.due("single ones alone go", x.meets(ALL, 2), 1);
        Check.due("blind, all go and pass", x.blind(ALL), 3);
        Check.due("blind, any go", x.blind(ANY), 2);
        Check.due("blind, one goes", x.blind(ONE), 1);
        x.whom(0, 2);
        for (int schedule = 0; schedule < 3; schedule++) {
            Check.due("rules for both", x.blind(schedule), x.meets(schedule, 2));
        }
    }

    private static void used() {
        RingMeets x = on(8, 0, 3);
        x.rule(3, 0, 0, 10, 1);
        x.rule(2, 0, 1, 1, 0);
        x.rule(2, 0, 2, 2, 1);
        x.rule(2, 0, 2, 1, 1);
        x.rule(0, 0, 2, 1, 1);
        x.rule(1, 0, 0, 10, 1);
        x.rule(1, 0, 2, 1, 1);
        Check.due("WAITING too, never one behind that fits, none of MET", x.used(ONE), 2 + 4 + 8);
        Check.due("ALL meet less", x.used(ALL), 2 + 4);
        RingMeets y = on(8, 0, 0, 3);
        for (int i = 0; i < 9; i++) {
            y.rule(5, 0, 0, 10, 1);
        }
        y.rule(2, 0, 0, 10, 1);
        Check.due("the tenth rule", y.used(ONE), 512);
        y.whom(9, 1);
        Check.due("for TOWERS", y.used(ONE), 512);
        y.stand(0, 1);
        Check.due("there is no TOWER", y.used(ONE), 0);
    }

    private static int choose(int n, int k) {
        int ways = 1;
        for (int i = 1; i <= k; i++) {
            ways = ways * (n - k + i) / i;
        }
        return ways;
    }

    private static void all() {
        for (int cells = 3; cells <= 10; cells++) {
            RingMeets x = going(cells, 0);
            for (int n = 1; n <= Math.min(5, cells); n++) {
                for (int schedule = 0; schedule < 3; schedule++) {
                    int sum = 0;
                    for (int kind = 0; kind < 4; kind++) {
                        sum += x.all(n, schedule, kind);
                    }
                    Check.due(n + " on " + cells + ", all kinds", sum, choose(cells, n));
                    Check.due(n + " on " + cells + ", MET", x.all(n, schedule, 0), n == 1 ? cells : 0);
                }
            }
        }
        RingMeets none = new RingMeets();
        Check.due("without rules none meets", none.all(3, ANY, 3), 56);
        RingMeets x = going(6, 0);
        Check.due("two of six, ONE", x.all(2, ONE, 1), 15);
        Check.due("two of six, ALL: an even gap, if they do not go round", x.all(2, ALL, 1), 6);
        Check.due("two of six, ALL: never", x.all(2, ALL, 3), 9);
        Check.due("two of six, ANY", x.all(2, ANY, 2), 15);
    }

    private static void nothingChanges() {
        RingMeets x = going(9, 0, 0, 2, 5);
        for (int schedule = 0; schedule < 3; schedule++) {
            x.meets(schedule, 1);
            x.first(schedule);
            x.blind(schedule);
            x.used(schedule);
            x.all(5, schedule, 2);
        }
        Check.due("STANDS", x.count(2), 37);
        Check.due("TOWERS", x.count(3), 1);
        Check.due("WALKERS", x.count(1), 4);
        Check.due("N", x.count(0), 9);
        Check.due("RULES", x.count(4), 1);
    }
}
