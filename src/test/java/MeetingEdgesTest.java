/** Promises 12 to 16: each sentence that names a boundary case. */
final class MeetingEdgesTest {
    private static final int OUTSIDE = Rings.OUTSIDE, STATE = Rings.STATE, NONE = Rings.NONE;
    private static final int ONE = Rings.ONE, ALL = Rings.ALL, ANY = Rings.ANY;
    private static final int WAIT = Rings.WAIT, GO = Rings.GO, FLEE = Rings.FLEE;
    private static final int LOW = Rings.LOW, HIGH = Rings.HIGH;
    private static final int[] NO_SCHEDULES = {-1, 3, LOW, HIGH};

    private MeetingEdgesTest() {
    }

    public static void main(String[] args) {
        Edge.of("how many STATES can come (3), of how many of these there is no STEP, though they have not MET (4).",
                MeetingEdgesTest::meets);
        Edge.of("though they have not MET (4). OUTSIDE: both; STATE: there are no STANDS.", MeetingEdgesTest::meetsRefused);
        Edge.of("the least set of STANDS by which it can be;", MeetingEdgesTest::first);
        Edge.of("NONE: SOON is NONE, or 0.", MeetingEdgesTest::firstNone);
        Edge.of("NONE: SOON is NONE, or 0. OUTSIDE; STATE: there are no STANDS.", MeetingEdgesTest::firstRefused);
        Edge.of("KIND of a SCHEDULE, if every STAND were taken for a single one (RULES for TOWERS FIT none).",
                MeetingEdgesTest::blind);
        Edge.of("(RULES for TOWERS FIT none). OUTSIDE; STATE: there are no STANDS.", MeetingEdgesTest::blindRefused);
        Edge.of("The set of RULES by which some STAND does what it does, WAITING too, "
                + "in some STATE that can come by a SCHEDULE and has not MET.", MeetingEdgesTest::used);
        Edge.of("and has not MET. OUTSIDE; STATE: there are no STANDS.", MeetingEdgesTest::usedRefused);
        Edge.of("Of all ways in which n single WALKERS, 1 to 5, no more than N, can stand on the ring: "
                + "how many are of a KIND of a SCHEDULE.", MeetingEdgesTest::all);
        Edge.of("no more than N", MeetingEdgesTest::allOnSmallRings);
        Edge.of("how many are of a KIND of a SCHEDULE. OUTSIDE: all three.", MeetingEdgesTest::allOutside);
        Check.end();
    }

    private static void row(String name, RingMeets x, int schedule, int... due) {
        for (int what = 0; what < due.length; what++) {
            Check.due(name + ": meets(" + schedule + ", " + what + ")", x.meets(schedule, what), due[what]);
        }
    }

    private static RingMeets gone() {
        RingMeets x = Rings.going(8, 0, 3);
        x.stand(0, 0);
        x.stand(3, 0);
        return x;
    }

    private static void meets() {
        row("MET is not counted as without a STEP", Rings.on(8, 5), ANY, 0, 0, 0, 1, 0);
        row("MET at last is not counted either", Rings.going(8, 4, 5), ONE, 1, 1, 1, 3, 0);
        row("now alone, without a STEP", Rings.on(8, 4, 5), ANY, NONE, NONE, 3, 1, 1);
        RingMeets x = Rings.on(8, 0, 3);
        x.rule(2, 0, 1, 3, GO);
        row("behind one STEP there is none", x, ONE, NONE, NONE, 3, 3, 2);
        row("behind one STEP of both there is none", x, ALL, NONE, NONE, 3, 2, 1);
        row("behind one STEP of any there is none", x, ANY, NONE, NONE, 3, 4, 3);
        int most = 252 + 210 * 4 + 120 * 6 + 45 * 3 + 10;
        RingMeets all = Rings.going(10, 0, 2, 4, 6, 8);
        row("every way in which five can stand", all, ANY, 5, NONE, 2, most, 0);
    }

    private static void meetsRefused() {
        for (RingMeets x : new RingMeets[] {new RingMeets(), gone(), Rings.going(8, 0, 3)}) {
            for (int schedule : NO_SCHEDULES) {
                for (int what : new int[] {0, 4, 5, -1}) {
                    Check.due("meets(" + schedule + ", " + what + ")", x.meets(schedule, what), OUTSIDE);
                }
            }
            for (int what : new int[] {-1, 5, LOW, HIGH}) {
                for (int schedule = 0; schedule < 3; schedule++) {
                    Check.due("meets(" + schedule + ", " + what + ")", x.meets(schedule, what), OUTSIDE);
                }
            }
        }
        for (RingMeets x : new RingMeets[] {new RingMeets(), gone()}) {
            for (int schedule = 0; schedule < 3; schedule++) {
                for (int what = 0; what < 5; what++) {
                    Check.due("nobody: meets(" + schedule + ", " + what + ")", x.meets(schedule, what), STATE);
                }
            }
        }
    }

    private static void first() {
        RingMeets beside = Rings.going(10, 8, 9);
        Check.due("either one: the lesser", beside.first(ONE), 1 << 8);
        Check.due("either one, not both: the lesser", beside.first(ANY), 1 << 8);
        RingMeets apart = Rings.going(10, 7, 9);
        Check.due("both at once alone are as soon", apart.first(ANY), 1 << 7 | 1 << 9);
        Check.due("all MOVERS", apart.first(ALL), 1 << 7 | 1 << 9);
        RingMeets waits = Rings.on(10, 7, 7, 9);
        waits.rule(2, 0, 0, 10, GO);
        waits.whom(0, 0);
        Check.due("all MOVERS, not who WAITS", waits.first(ALL), 1 << 9);
        Check.due("any MOVERS, not who WAITS", waits.first(ANY), 1 << 9);
        waits.rule(2, 0, 0, 10, FLEE);
        Check.due("the least MOVER FLEES: the other one", waits.first(ONE), 1 << 9);
        RingMeets three = Rings.going(10, 0, 1, 3);
        Check.due("the lesser one of those by which it is SOON", three.first(ONE), 1);
        RingMeets middle = Rings.going(10, 0, 2, 3);
        Check.due("not the one between", middle.first(ONE), 1);
        RingMeets five = Rings.on(10, 0, 1, 3, 5, 7);
        five.rule(0, 1, 0, 2, GO);
        five.rule(0, 0, 0, 10, FLEE);
        Check.due("all five at once alone are as soon", five.first(ANY), 1 + 2 + 8 + 32 + 128);
        Check.due("all five at once: SOON", five.meets(ANY, 0), 4);
        five.step(1 + 2 + 8 + 32 + 128);
        Check.due("all five at once: SOON behind that", five.meets(ANY, 0), 3);
        RingMeets edge = Rings.going(10, 9, 0, 1);
        Check.due("three side by side over the edge: both to the one between", edge.meets(ONE, 0), 2);
        Check.due("1 goes to 0, or 9, but not 0 to 1: the least", edge.first(ONE), 2);
    }

    private static void firstNone() {
        for (int schedule = 0; schedule < 3; schedule++) {
            Check.due("SOON is 0, one WALKER", Rings.going(8, 3).first(schedule), NONE);
            Check.due("SOON is 0, five", Rings.going(8, 3, 3, 3, 3, 3).first(schedule), NONE);
            Check.due("SOON is NONE, no RULES", Rings.on(8, 3, 4).first(schedule), NONE);
        }
        Check.due("SOON is NONE, they pass", Rings.going(8, 3, 4).first(ALL), NONE);
        Check.due("SOON is not NONE, though LATE is", Rings.going(8, 3, 4).first(ANY), 8);
    }

    private static void firstRefused() {
        for (RingMeets x : new RingMeets[] {new RingMeets(), gone(), Rings.going(8, 3), Rings.going(8, 3, 4)}) {
            for (int schedule : NO_SCHEDULES) {
                Check.due("first(" + schedule + ")", x.first(schedule), OUTSIDE);
            }
        }
        for (int schedule = 0; schedule < 3; schedule++) {
            Check.due("nobody: first(" + schedule + ")", new RingMeets().first(schedule), STATE);
            Check.due("all have gone: first(" + schedule + ")", gone().first(schedule), STATE);
        }
    }

    private static void blind() {
        RingMeets towers = Rings.going(8, 0, 0, 3);
        towers.whom(0, 1);
        Check.due("a TOWER comes", towers.meets(ALL, 2), 1);
        Check.due("a RULE for TOWERS FITS none", towers.blind(ALL), 3);
        RingMeets single = Rings.going(8, 0, 0, 3, 3);
        single.whom(0, 0);
        Check.due("TOWERS do not go", single.meets(ONE, 2), 3);
        Check.due("taken for single ones they do", single.blind(ONE), 1);
        RingMeets later = Rings.on(8, 0, 2, 5);
        later.rule(0, 0, 0, 10, WAIT);
        later.whom(0, 1);
        later.rule(0, 0, 0, 10, GO);
        Check.due("no TOWER now, but behind the first STEP: it WAITS", later.meets(ALL, 2), 1);
        Check.due("it is not seen then either", later.blind(ALL), 3);
        for (int schedule = 0; schedule < 3; schedule++) {
            Check.due("they have MET", Rings.going(8, 4, 4).blind(schedule), 0);
            Check.due("they have MET, one", Rings.going(8, 4).blind(schedule), 0);
        }
        Check.due("for both: as they see, 1", Rings.going(8, 3, 3, 4).blind(ONE), 1);
        Check.due("for both: as they see, 2", Rings.going(8, 3, 3, 4).blind(ANY), 2);
        Check.due("for both: as they see, 3", Rings.going(8, 3, 3, 4).blind(ALL), 3);
        Check.due("they see again behind that", towers.meets(ALL, 2), 1);
    }

    private static void blindRefused() {
        for (RingMeets x : new RingMeets[] {new RingMeets(), gone(), Rings.going(8, 3, 4)}) {
            for (int schedule : NO_SCHEDULES) {
                Check.due("blind(" + schedule + ")", x.blind(schedule), OUTSIDE);
            }
        }
        for (int schedule = 0; schedule < 3; schedule++) {
            Check.due("nobody: blind(" + schedule + ")", new RingMeets().blind(schedule), STATE);
            Check.due("all have gone: blind(" + schedule + ")", gone().blind(schedule), STATE);
        }
    }

    private static void used() {
        for (int schedule = 0; schedule < 3; schedule++) {
            Check.due("no RULES", Rings.on(8, 0, 3).used(schedule), 0);
            Check.due("MET now", Rings.going(8, 3).used(schedule), 0);
            Check.due("WAITING too", Rings.doing(WAIT, 8, 0, 3).used(schedule), 1);
        }
        RingMeets x = Rings.on(8, 0, 3);
        x.rule(1, 0, 2, 1, GO);
        x.rule(2, 0, 1, 1, GO);
        x.rule(0, 0, 2, 1, GO);
        x.rule(0, 0, 0, 10, FLEE);
        Check.due("RULE 0 is for who has MET, RULE 3 comes too late", x.used(ONE), 2 + 4);
        RingMeets far = Rings.on(8, 0, 3);
        far.rule(2, 0, 1, 3, GO);
        far.rule(2, 0, 1, 2, WAIT);
        far.rule(2, 0, 1, 1, WAIT);
        Check.due("behind a STEP of ONE they are 2 apart", far.used(ONE), 1 + 2);
        Check.due("behind a STEP of ALL they are 1 apart", far.used(ALL), 1 + 4);
        Check.due("behind a STEP of ANY both may be", far.used(ANY), 1 + 2 + 4);
        RingMeets ten = Rings.on(8, 0, 3);
        for (int i = 0; i < 10; i++) {
            ten.rule(i == 0 || i == 9 ? 2 : 5, 0, 1, i == 0 ? 3 : 2, GO);
        }
        Check.due("the first one and the tenth", ten.used(ONE), 1 + 512);
    }

    private static void usedRefused() {
        for (RingMeets x : new RingMeets[] {new RingMeets(), gone(), Rings.going(8, 3), Rings.going(8, 3, 4)}) {
            for (int schedule : NO_SCHEDULES) {
                Check.due("used(" + schedule + ")", x.used(schedule), OUTSIDE);
            }
        }
        for (int schedule = 0; schedule < 3; schedule++) {
            Check.due("nobody: used(" + schedule + ")", new RingMeets().used(schedule), STATE);
            Check.due("all have gone: used(" + schedule + ")", gone().used(schedule), STATE);
        }
    }

    private static void kinds(String name, RingMeets x, int n, int schedule, int... due) {
        for (int kind = 0; kind < due.length; kind++) {
            Check.due(name + ": all(" + n + ", " + schedule + ", " + kind + ")", x.all(n, schedule, kind), due[kind]);
        }
    }

    private static void all() {
        RingMeets x = Rings.going(10);
        for (int schedule = 0; schedule < 3; schedule++) {
            kinds("one has MET", x, 1, schedule, 10, 0, 0, 0);
        }
        RingMeets none = Rings.on(10);
        int[] ways = {10, 45, 120, 210, 252};
        for (int n = 2; n <= 5; n++) {
            kinds("no RULES", none, n, ANY, 0, 0, 0, ways[n - 1]);
        }
        kinds("nobody is needed now", Rings.going(5), 2, ONE, 0, 10, 0, 0);
        kinds("who is there now does not matter", Rings.going(5, 0, 0, 0, 0, 3), 2, ONE, 0, 10, 0, 0);
        kinds("by ALL: those with one CELL between", Rings.going(5), 2, ALL, 0, 5, 0, 5);
        kinds("by ANY", Rings.going(5), 2, ANY, 0, 0, 10, 0);
        RingMeets towers = Rings.going(5, 0, 0);
        towers.whom(0, 1);
        kinds("they are single ones", towers, 2, ONE, 0, 0, 0, 10);
        RingMeets seen = Rings.on(4);
        seen.rule(3, 0, 0, 10, GO);
        seen.rule(2, 0, 0, 10, GO);
        seen.whom(1, 0);
        kinds("TOWERS that come to be are seen", seen, 3, ONE, 0, 4, 0, 0);
        seen.whom(1, 1);
        kinds("TOWERS that come to be go", seen, 3, ONE, 0, 4, 0, 0);
        seen.drop(1);
        kinds("nobody goes, if two are left", seen, 3, ONE, 0, 0, 0, 4);
        RingMeets stays = Rings.going(9, 0, 0, 8);
        String was = Rings.now(stays);
        stays.all(5, ANY, 1);
        Check.holds("all changes nothing", Rings.now(stays).equals(was));
    }

    private static void allOnSmallRings() {
        for (int cells = 3; cells <= 10; cells++) {
            RingMeets x = Rings.on(cells);
            for (int n = 1; n <= 6; n++) {
                boolean may = n <= 5 && n <= cells;
                int got = x.all(n, ONE, 0);
                Check.due(n + " on " + cells + " CELLS", got, may ? n == 1 ? cells : 0 : OUTSIDE);
            }
        }
        RingMeets three = Rings.going(3);
        kinds("as many as CELLS, ONE", three, 3, ONE, 0, 1, 0, 0);
        kinds("as many as CELLS, ALL go round", three, 3, ALL, 0, 0, 0, 1);
        kinds("as many as CELLS, ANY", three, 3, ANY, 0, 0, 1, 0);
        kinds("five on five, ALL go round", Rings.going(5), 5, ALL, 0, 0, 0, 1);
    }

    private static void allOutside() {
        for (RingMeets x : new RingMeets[] {new RingMeets(), Rings.going(8, 3, 4)}) {
            for (int n : new int[] {0, -1, 6, LOW, HIGH}) {
                Check.due("all(" + n + ", 0, 0)", x.all(n, 0, 0), OUTSIDE);
            }
            for (int schedule : NO_SCHEDULES) {
                Check.due("all(1, " + schedule + ", 0)", x.all(1, schedule, 0), OUTSIDE);
            }
            for (int kind : new int[] {-1, 4, LOW, HIGH}) {
                Check.due("all(1, 0, " + kind + ")", x.all(1, 0, kind), OUTSIDE);
            }
            Check.due("all three", x.all(0, 3, 4), OUTSIDE);
            Check.due("nobody is no STATE", x.all(1, 2, 0), 8);
        }
    }
}
