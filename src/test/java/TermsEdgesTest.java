import java.util.List;
import java.util.function.ToIntFunction;

/** The terms: each sentence that names a boundary case. */
final class TermsEdgesTest {
    private static final int UNKNOWN = Rings.UNKNOWN, OUTSIDE = Rings.OUTSIDE, STATE = Rings.STATE;
    private static final int FULL = Rings.FULL, NONE = Rings.NONE;
    private static final int ONE = Rings.ONE, ALL = Rings.ALL, ANY = Rings.ANY;
    private static final int WAIT = Rings.WAIT, GO = Rings.GO, FLEE = Rings.FLEE;

    private TermsEdgesTest() {
    }

    public static void main(String[] args) {
        refusals();
        theRing();
        theGaps();
        theRules();
        theSteps();
        meeting();
        Check.end();
    }

    private static void meets(String name, RingMeets x, int schedule, int... due) {
        for (int what = 0; what < due.length; what++) {
            Check.due(name + ": meets(" + schedule + ", " + what + ")", x.meets(schedule, what), due[what]);
        }
    }

    // ---- what is refused

    private static void refusals() {
        Edge.of("An object is used for at most 512 calls", TermsEdgesTest::lastCall);
        Edge.of("Calls that are refused answer the first that fits, in the order in which they are told with the call",
                TermsEdgesTest::firstThatFits);
        Edge.of("NONE -6 is told only where no refusal fits.", TermsEdgesTest::noneIsLast);
        Edge.of("What is refused changes nothing.", TermsEdgesTest::changesNothing);
        Edge.of("Whatever is told is told as things are then.", TermsEdgesTest::asThingsAre);
        Edge.of("Sets of CELLS or RULES are numbers: bit c (of the value 1 shifted left by c) tells whether c is in it.",
                TermsEdgesTest::sets);
    }

    /** The 512th call answers as the first one would; none behind it is asked. */
    private static void lastCall() {
        RingMeets x = new RingMeets();
        x.ring(10);
        x.rule(0, 0, 0, 10, GO);
        x.stand(0, 1);
        x.stand(3, 1);
        for (int call = 5; call <= 511; call++) {
            Check.due("call " + call, call % 2 == 0 ? x.meets(ONE, 0) : x.all(2, ONE, 1), call % 2 == 0 ? 3 : 45);
        }
        Check.due("call 512", x.meets(ONE, 3), 10);
    }

    private static void firstThatFits() {
        RingMeets x = Rings.full();
        Check.due("stand: UNKNOWN, OUTSIDE", x.stand(10, 6), UNKNOWN);
        Check.due("stand: UNKNOWN, FULL", x.stand(10, 5), UNKNOWN);
        Check.due("stand: OUTSIDE, FULL", x.stand(1, 6), OUTSIDE);
        Check.due("stand: OUTSIDE below, all are there", x.stand(1, -1), OUTSIDE);
        Check.due("stand: FULL alone", x.stand(1, 5), FULL);
        Check.due("gap: UNKNOWN (CELL), OUTSIDE", x.gap(10, 3, 0), UNKNOWN);
        Check.due("gap: UNKNOWN (STAND), OUTSIDE", x.gap(1, -1, 0), UNKNOWN);
        Check.due("rule: OUTSIDE, FULL", x.rule(6, 5, 3, 11, 3), OUTSIDE);
        Check.due("rule: the last one OUTSIDE, FULL", x.rule(0, 0, 0, 1, 3), OUTSIDE);
        Check.due("rule: FULL alone", x.rule(0, 0, 0, 1, 0), FULL);
        Check.due("whom: UNKNOWN, OUTSIDE", x.whom(10, 3), UNKNOWN);
        Check.due("of: UNKNOWN, OUTSIDE", x.of(10, 6), UNKNOWN);
        Check.due("of: UNKNOWN below, OUTSIDE below", x.of(-1, -1), UNKNOWN);
        Check.due("does: UNKNOWN (CELL), OUTSIDE", x.does(-1, 5), UNKNOWN);
        Check.due("does: UNKNOWN (STAND), OUTSIDE", x.does(1, 5), UNKNOWN);
        RingMeets nobody = new RingMeets();
        Check.due("meets: OUTSIDE (schedule), STATE", nobody.meets(3, 0), OUTSIDE);
        Check.due("meets: OUTSIDE (what), STATE", nobody.meets(0, 5), OUTSIDE);
        Check.due("meets: STATE alone", nobody.meets(0, 0), STATE);
        Check.due("first: OUTSIDE, STATE", nobody.first(-1), OUTSIDE);
        Check.due("blind: OUTSIDE, STATE", nobody.blind(3), OUTSIDE);
        Check.due("used: OUTSIDE, STATE", nobody.used(3), OUTSIDE);
        Check.due("restore: OUTSIDE, STATE", nobody.restore(2), OUTSIDE);
        Check.due("restore: STATE alone", nobody.restore(1), STATE);
    }

    private static void noneIsLast() {
        RingMeets nobody = new RingMeets();
        Check.due("gap: no STAND, no such place", nobody.gap(0, 0, 7), UNKNOWN);
        Check.due("gap: no CELL, no such place", nobody.gap(8, 0, -2), UNKNOWN);
        Check.due("shape: OUTSIDE, no STANDS", nobody.shape(6), OUTSIDE);
        Check.due("does: no STAND, no RULE", nobody.does(0, 2), UNKNOWN);
        Check.due("meets: no STANDS, they never can", nobody.meets(ONE, 0), STATE);
        Check.due("meets: no STANDS, LATE", nobody.meets(ONE, 1), STATE);
        Check.due("first: no STANDS", nobody.first(ONE), STATE);
        RingMeets two = Rings.on(8, 0, 4);
        Check.due("gap: OUTSIDE, no such place", two.gap(0, 3, 2), OUTSIDE);
        Check.due("gap: OUTSIDE, a place below -1", two.gap(0, 3, -2), OUTSIDE);
        Check.due("gap: OUTSIDE, how many", two.gap(0, 3, -1), OUTSIDE);
        Check.due("meets: OUTSIDE, they never can", two.meets(3, 0), OUTSIDE);
        Check.due("first: OUTSIDE, they never can", two.first(3), OUTSIDE);
        Check.due("no refusal fits: gap", two.gap(0, 2, 2), NONE);
        Check.due("no refusal fits: does", two.does(0, 2), NONE);
        Check.due("no refusal fits: SOON", two.meets(ONE, 0), NONE);
        Check.due("no refusal fits: LATE", two.meets(ONE, 1), NONE);
        Check.due("no refusal fits: first", two.first(ONE), NONE);
        Check.due("no refusal fits: shape", nobody.shape(5), NONE);
    }

    private record Refused(String name, int due, ToIntFunction<RingMeets> call) {
    }

    /** Refused by the full ring: five WALKERS on 0, 4 and 9 of ten CELLS, ten RULES. */
    private static final List<Refused> BY_FULL = List.of(
        new Refused("ring(2)", OUTSIDE, x -> x.ring(2)),
        new Refused("ring(11)", OUTSIDE, x -> x.ring(11)),
        new Refused("stand(10, 0)", UNKNOWN, x -> x.stand(10, 0)),
        new Refused("stand(-1, 0)", UNKNOWN, x -> x.stand(-1, 0)),
        new Refused("stand(0, 6)", OUTSIDE, x -> x.stand(0, 6)),
        new Refused("stand(0, -1)", OUTSIDE, x -> x.stand(0, -1)),
        new Refused("stand(1, 1)", FULL, x -> x.stand(1, 1)),
        new Refused("stand(0, 3)", FULL, x -> x.stand(0, 3)),
        new Refused("rule(0, 0, 0, 1, 3)", OUTSIDE, x -> x.rule(0, 0, 0, 1, 3)),
        new Refused("rule(5, 4, 2, 10, 2)", FULL, x -> x.rule(5, 4, 2, 10, 2)),
        new Refused("whom(10, 0)", UNKNOWN, x -> x.whom(10, 0)),
        new Refused("whom(0, 3)", OUTSIDE, x -> x.whom(0, 3)),
        new Refused("whom(9, -1)", OUTSIDE, x -> x.whom(9, -1)),
        new Refused("drop(10)", UNKNOWN, x -> x.drop(10)),
        new Refused("drop(-1)", UNKNOWN, x -> x.drop(-1)),
        new Refused("step(1 + 2 + 16)", OUTSIDE, x -> x.step(1 + 2 + 16)),
        new Refused("step(1 + 1024)", OUTSIDE, x -> x.step(1 + 1024)),
        new Refused("step(1, below 0)", OUTSIDE, x -> x.step(1 | Rings.LOW)),
        new Refused("meets(3, 0)", OUTSIDE, x -> x.meets(3, 0)),
        new Refused("all(6, 0, 0)", OUTSIDE, x -> x.all(6, 0, 0)),
        new Refused("image(2)", OUTSIDE, x -> x.image(2)),
        new Refused("image(-1)", OUTSIDE, x -> x.image(-1)),
        new Refused("restore(2)", OUTSIDE, x -> x.restore(2)),
        new Refused("restore(-1)", OUTSIDE, x -> x.restore(-1)));

    /** Refused by a new object. */
    private static final List<Refused> BY_NEW = List.of(
        new Refused("ring(0)", OUTSIDE, x -> x.ring(0)),
        new Refused("stand(8, 1)", UNKNOWN, x -> x.stand(8, 1)),
        new Refused("rule(0, 0, 0, 0, 0)", OUTSIDE, x -> x.rule(0, 0, 0, 0, 0)),
        new Refused("whom(0, 0)", UNKNOWN, x -> x.whom(0, 0)),
        new Refused("drop(0)", UNKNOWN, x -> x.drop(0)),
        new Refused("step(1)", OUTSIDE, x -> x.step(1)),
        new Refused("meets(0, 0)", STATE, x -> x.meets(0, 0)),
        new Refused("image(2)", OUTSIDE, x -> x.image(2)),
        new Refused("restore(0)", STATE, x -> x.restore(0)),
        new Refused("restore(1)", STATE, x -> x.restore(1)));

    private static void changesNothing() {
        String full = Rings.whole(Rings.full());
        for (Refused r : BY_FULL) {
            RingMeets x = Rings.full();
            Check.due(r.name(), r.call().applyAsInt(x), r.due());
            Check.holds("all is as it was behind " + r.name(), Rings.whole(x).equals(full));
        }
        String fresh = Rings.whole(new RingMeets());
        for (Refused r : BY_NEW) {
            RingMeets x = new RingMeets();
            Check.due("new: " + r.name(), r.call().applyAsInt(x), r.due());
            Check.holds("all is as it was behind " + r.name(), Rings.whole(x).equals(fresh));
        }
    }

    /** One object, asked again behind each change. */
    private static void asThingsAre() {
        RingMeets x = Rings.on(8, 0, 3);
        Check.due("no RULE", x.meets(ONE, 0), NONE);
        x.rule(0, 0, 0, 10, GO);
        Check.due("behind rule", x.meets(ONE, 0), 3);
        Check.due("behind rule: all", x.all(2, ONE, 1), 28);
        x.whom(0, 1);
        Check.due("behind whom", x.meets(ONE, 0), NONE);
        Check.due("behind whom: all", x.all(2, ONE, 1), 0);
        x.stand(3, 2);
        Check.due("behind stand: a TOWER", x.meets(ONE, 0), 3);
        x.image(0);
        x.stand(0, 0);
        Check.due("behind stand: MET", x.meets(ONE, 0), 0);
        x.restore(0);
        Check.due("behind restore", x.meets(ONE, 0), 3);
        x.step(8);
        Check.due("behind step", x.meets(ONE, 0), 2);
        Check.due("behind step: GAPS", x.gap(0, 0, 0), 2);
        x.drop(0);
        Check.due("behind drop", x.meets(ONE, 0), NONE);
        x.ring(8);
        Check.due("behind ring", x.meets(ONE, 0), STATE);
        x.restore(0);
        Check.due("behind restore again", x.used(ONE), 1);
    }

    private static void sets() {
        for (int cell = 0; cell < 10; cell++) {
            RingMeets x = Rings.on(10, cell, cell);
            Check.due("STANDS: " + cell + " alone", x.count(2), 1 << cell);
            Check.due("TOWERS: " + cell + " alone", x.count(3), 1 << cell);
            Check.due("a set to STEP", x.step(1 << cell), 1);
            RingMeets two = Rings.on(10, cell, cell, (cell + 3) % 10);
            two.rule(2, 0, 1, 3, GO);
            two.rule(2, 0, 0, 3, GO);
            two.whom(0, 1);
            two.whom(1, 1);
            Check.due("first: " + cell + " alone", two.first(ONE), 1 << cell);
        }
        for (int rule = 0; rule < 10; rule++) {
            RingMeets x = Rings.on(10, 0, 3);
            for (int i = 0; i < 10; i++) {
                x.rule(i == rule ? 2 : 5, 0, 1, 3, WAIT);
            }
            Check.due("used: " + rule + " alone", x.used(ALL), 1 << rule);
        }
    }

    // ---- the ring

    private static void theRing() {
        Edge.of("THE RING has N CELLS, 0 to N less 1, N being 3 to 10 (8 at first)", TermsEdgesTest::cells);
        Edge.of("up is to CELLS of greater numbers, and from the last one to 0", TermsEdgesTest::up);
        Edge.of("down is the other way.", TermsEdgesTest::down);
        Edge.of("several may stand on one, 5 in all at most (none at first)", TermsEdgesTest::walkers);
        Edge.of("A STAND is a CELL with one WALKER or more, a TOWER one with two or more.", TermsEdgesTest::towers);
    }

    private static void cells() {
        RingMeets x = new RingMeets();
        Check.due("at first, CELL 7", x.stand(7, 1), 0);
        Check.due("at first, CELL 8", x.stand(8, 1), UNKNOWN);
        for (int cells = 3; cells <= 10; cells++) {
            RingMeets y = new RingMeets();
            Check.due("ring(" + cells + ")", y.ring(cells), 8);
            Check.due("N", y.count(0), cells);
            Check.due("CELL 0 of " + cells, y.stand(0, 1), 0);
            Check.due("the last CELL of " + cells, y.stand(cells - 1, 1), 0);
            Check.due("CELL N of " + cells, y.stand(cells, 1), UNKNOWN);
            Check.due("CELL -1 of " + cells, y.stand(-1, 1), UNKNOWN);
        }
        Check.due("two CELLS", x.ring(2), OUTSIDE);
        Check.due("eleven CELLS", x.ring(11), OUTSIDE);
    }

    /** The last CELL and CELL 0, side by side on every ring. */
    private static void up() {
        for (int cells = 3; cells <= 10; cells++) {
            int last = cells - 1;
            String name = "of " + cells + " CELLS: ";
            RingMeets x = Rings.going(cells, last, 0);
            Check.due(name + "GAPS up of the last one, 0", x.gap(last, 0, 0), 1);
            Check.due(name + "GAPS up of the last one, 1", x.gap(last, 0, 1), last);
            Check.due(name + "GAPS up of 0, 0", x.gap(0, 0, 0), last);
            Check.due(name + "GO up from the last one", x.does(last, 4), 0);
            Check.due(name + "by ALL they pass", x.meets(ALL, 3), 1);
            Check.due(name + "by ONE they meet on either", x.meets(ONE, 3), 3);
            Check.due(name + "STEP up from the last one", x.step(1 << last), 1);
            Check.due(name + "it is on 0", x.count(2), 1);
            RingMeets one = Rings.on(cells, last);
            one.rule(1, 0, 2, 1, GO);
            Check.due(name + "STEP up, alone", one.step(1 << last), 1);
            Check.due(name + "it is on 0, alone", one.count(2), 1);
        }
        RingMeets x = Rings.going(10, 8, 1);
        Check.due("from 8 to 1", x.gap(8, 0, 0), 3);
        Check.due("they meet beyond the edge", x.meets(ONE, 0), 3);
        RingMeets far = Rings.going(10, 3, 9);
        Check.due("up from 9 to 3", far.gap(9, 0, 0), 4);
        Check.due("9 goes up", far.does(9, 4), 0);
        Check.due("3 goes down", far.does(3, 4), 2);
        Check.due("by ALL they meet on 1", far.meets(ALL, 0), 2);
        Check.due("from 9 and 3 to 0 and 2", far.step(1 << 9 | 1 << 3), 2);
        Check.due("STANDS on 0 and 2", far.count(2), 5);
    }

    private static void down() {
        for (int cells = 3; cells <= 10; cells++) {
            int last = cells - 1;
            String name = "of " + cells + " CELLS: ";
            RingMeets x = Rings.going(cells, last, 0);
            Check.due(name + "GAPS down of 0, 0", x.gap(0, 1, 0), 1);
            Check.due(name + "GAPS down of 0, 1", x.gap(0, 1, 1), last);
            Check.due(name + "GAPS down of the last one, 0", x.gap(last, 1, 0), last);
            Check.due(name + "GO down from 0", x.does(0, 4), last);
            Check.due(name + "STEP down from 0", x.step(1), 1);
            Check.due(name + "it is on the last one", x.count(2), 1 << last);
            RingMeets one = Rings.on(cells, 0);
            one.rule(1, 0, 2, 1, FLEE);
            Check.due(name + "STEP down, alone", one.step(1), 1);
            Check.due(name + "it is on the last one, alone", one.count(2), 1 << last);
        }
        RingMeets x = Rings.on(6, 0, 0, 4);
        x.rule(0, 0, 0, 10, GO);
        x.whom(0, 1);
        Check.due("a TOWER goes down beyond the edge", x.meets(ALL, 0), 2);
    }

    private static void walkers() {
        RingMeets x = new RingMeets();
        Check.due("none at first", x.count(1), 0);
        Check.due("five on one", x.stand(3, 5), 0);
        Check.due("five in all", x.count(1), 5);
        Check.due("the sixth on another", x.stand(4, 1), FULL);
        Check.due("five on one again", x.stand(3, 5), 5);
        RingMeets five = Rings.on(10, 0, 1, 2, 3, 4);
        Check.due("five on five", five.count(2), 31);
        Check.due("the sixth", five.stand(9, 1), FULL);
        Check.due("two on one of the five", five.stand(0, 2), FULL);
        Check.due("none on one of the five", five.stand(0, 0), 1);
        Check.due("there is room again", five.stand(9, 1), 0);
        Check.due("five still", five.count(1), 5);
    }

    private static void towers() {
        for (int n = 0; n <= 5; n++) {
            RingMeets x = new RingMeets();
            x.stand(6, n);
            Check.due(n + " WALKERS: STANDS", x.count(2), n >= 1 ? 64 : 0);
            Check.due(n + " WALKERS: TOWERS", x.count(3), n >= 2 ? 64 : 0);
            Check.due(n + " WALKERS: GAPS", x.gap(6, 0, 0), n >= 1 ? 8 : UNKNOWN);
            Check.due(n + " WALKERS: STEP", x.step(64), n >= 1 ? 1 : OUTSIDE);
        }
    }

    // ---- GAPS

    private static void theGaps() {
        Edge.of("as many numbers as there are STANDS (N alone, if it is the only one)", TermsEdgesTest::howManyGaps);
        Edge.of("the lesser one is that which has the lesser number at the first place at which they differ",
                TermsEdgesTest::lesserRow);
        Edge.of("up, if they are alike: then it is EVEN.", TermsEdgesTest::even);
        Edge.of("The ring is TURNED, if two STANDS have like GAPS up", TermsEdgesTest::turned);
        Edge.of("MIRRORED, if GAPS up of a STAND are GAPS down of one (it may be the same)", TermsEdgesTest::mirrored);
        Edge.of("RIGID, if it is neither (it may be both; without STANDS it is none of these)", TermsEdgesTest::rigid);
    }

    private static void howManyGaps() {
        for (int cells = 3; cells <= 10; cells++) {
            RingMeets x = Rings.on(cells, cells - 1, cells - 1);
            for (int what = 0; what < 3; what++) {
                Check.due("the only one: how many", x.gap(cells - 1, what, -1), 1);
                Check.due("the only one: N alone", x.gap(cells - 1, what, 0), cells);
                Check.due("the only one: no more", x.gap(cells - 1, what, 1), NONE);
            }
        }
        RingMeets x = Rings.on(10);
        for (int stands = 1; stands <= 5; stands++) {
            x.stand(2 * stands - 1, 1);
            for (int what = 0; what < 3; what++) {
                Check.due(stands + " STANDS", x.gap(1, what, -1), stands);
                int sum = 0;
                for (int i = 0; i < stands; i++) {
                    sum += x.gap(1, what, i);
                }
                Check.due(stands + " STANDS: once round", sum, 10);
                Check.due(stands + " STANDS: no more", x.gap(1, what, stands), NONE);
            }
        }
    }

    private static void view(String name, RingMeets x, int cell, int isUp, int... due) {
        Check.due(name + ": is it up", x.does(cell, 0), isUp);
        for (int i = 0; i < due.length; i++) {
            Check.due(name + ": VIEW " + i, x.gap(cell, 2, i), due[i]);
        }
    }

    private static void lesserRow() {
        view("they differ at place 0: up", Rings.on(7, 0, 1, 3), 0, 1, 1, 2, 4);
        view("they differ at place 0: down", Rings.on(7, 0, 1, 3), 3, 0, 2, 1, 4);
        view("they differ at place 1: up", Rings.on(7, 0, 1, 3, 6), 0, 1, 1, 2, 3, 1);
        view("they differ at place 1: down", Rings.on(7, 0, 1, 4, 6), 0, 0, 1, 2, 3, 1);
        view("five, they differ at place 1: up", Rings.on(7, 0, 1, 2, 4, 6), 0, 1, 1, 1, 2, 2, 1);
        view("five, they differ at place 1: down", Rings.on(7, 0, 1, 3, 5, 6), 0, 0, 1, 1, 2, 2, 1);
        view("two, the nearer one is down", Rings.on(10, 0, 9), 0, 0, 1, 9);
        view("two, the nearer one is up", Rings.on(10, 0, 9), 9, 1, 1, 9);
        view("two, by one CELL nearer", Rings.on(9, 0, 4), 0, 1, 4, 5);
        view("two, by one CELL farther", Rings.on(9, 0, 5), 0, 0, 4, 5);
    }

    private static void even() {
        RingMeets two = Rings.on(10, 4, 9);
        Check.due("two afar: EVEN", two.does(4, 1), 1);
        Check.due("two afar: VIEW is up", two.does(4, 0), 1);
        Check.due("two afar: EVEN over the edge", two.does(9, 1), 1);
        Check.due("two afar: VIEW is up over the edge", two.does(9, 0), 1);
        RingMeets one = Rings.on(3, 0);
        Check.due("the only one: EVEN", one.does(0, 1), 1);
        Check.due("the only one: VIEW is up", one.does(0, 0), 1);
        RingMeets three = Rings.on(8, 0, 3, 5);
        Check.due("between two as far: EVEN", three.does(0, 1), 1);
        Check.due("between two as far: VIEW is up", three.does(0, 0), 1);
        Check.due("not between two as far", three.does(3, 1), 0);
        RingMeets five = Rings.on(9, 0, 1, 3, 6, 8);
        Check.due("alike at all five places: EVEN", five.does(0, 1), 1);
        Check.due("alike at place 0 alone", Rings.on(7, 0, 1, 3, 6).does(0, 1), 0);
        Check.due("alike at no place", Rings.on(9, 0, 4).does(0, 1), 0);
    }

    private static void turned() {
        Check.due("one STAND is not two", Rings.on(8, 0).shape(0), 0);
        Check.due("two, as far", Rings.on(8, 0, 4).shape(0), 1);
        Check.due("two, not as far", Rings.on(9, 0, 4).shape(0), 0);
        Check.due("three, as far", Rings.on(9, 2, 5, 8).shape(0), 1);
        Check.due("pairs", Rings.on(10, 0, 1, 5, 6).shape(0), 1);
        Check.due("mirrored alone", Rings.on(8, 0, 3, 5).shape(0), 0);
        Check.due("five, as far", Rings.on(10, 1, 3, 5, 7, 9).shape(0), 1);
        Check.due("every CELL", Rings.on(3, 0, 1, 2).shape(0), 1);
    }

    private static void mirrored() {
        Check.due("the same one, alone", Rings.on(8, 5).shape(1), 1);
        Check.due("the same one of three", Rings.on(8, 0, 3, 5).shape(1), 1);
        RingMeets two = Rings.on(5, 0, 1);
        Check.due("none is EVEN", two.shape(3), 0);
        Check.due("another one", two.shape(1), 1);
        Check.due("neither", Rings.on(7, 0, 1, 3).shape(1), 0);
        Check.due("neither, of four", Rings.on(10, 0, 1, 3, 6).shape(1), 0);
    }

    private static void rigid() {
        RingMeets nobody = Rings.on(8);
        for (int what = 0; what < 3; what++) {
            Check.due("without STANDS: shape(" + what + ")", nobody.shape(what), 0);
        }
        RingMeets both = Rings.on(8, 0, 4);
        Check.due("both: TURNED", both.shape(0), 1);
        Check.due("both: MIRRORED", both.shape(1), 1);
        Check.due("both: RIGID", both.shape(2), 0);
        Check.due("MIRRORED alone: RIGID", Rings.on(8, 0, 3, 5).shape(2), 0);
        Check.due("one STAND: RIGID", Rings.on(8, 0).shape(2), 0);
        Check.due("neither: RIGID", Rings.on(7, 0, 1, 3).shape(2), 1);
    }

    // ---- RULES

    private static void theRules() {
        Edge.of("RULES, 10 at most, are numbered from 0 on as they are told.", TermsEdgesTest::tenRules);
        Edge.of("how many STANDS there must be (0 to 5; 0: any number)", TermsEdgesTest::howManyStands);
        Edge.of("(a place that VIEW does not have: it does not fit)", TermsEdgesTest::places);
        Edge.of("that it is less than (0), just (1), more than (2) a number of 1 to 10", TermsEdgesTest::numbers);
        Edge.of("for whom it is: single ones (0), TOWERS (1), both (2, at first)", TermsEdgesTest::forWhom);
        Edge.of("WAIT (0), GO (1: one CELL to the side of VIEW: up, if VIEW is GAPS up), FLEE (2: one CELL to the other side)",
                TermsEdgesTest::sides);
        Edge.of("A STAND does what the first RULE tells that FITS it; it WAITS, if none does.", TermsEdgesTest::firstRule);
        Edge.of("MOVERS are STANDS that GO or FLEE.", TermsEdgesTest::movers);
    }

    private static void tenRules() {
        RingMeets x = new RingMeets();
        for (int i = 0; i < 10; i++) {
            Check.due("RULE " + i, x.rule(0, 0, 0, i + 1, 0), i);
        }
        Check.due("the eleventh", x.rule(0, 0, 0, 1, 0), FULL);
        Check.due("there are ten", x.count(4), 10);
        for (int i = 0; i < 10; i++) {
            Check.due("as they are told: " + i, x.of(i, 3), i + 1);
        }
    }

    private static void howManyStands() {
        for (int stands = 1; stands <= 5; stands++) {
            for (int told = 0; told <= 5; told++) {
                RingMeets x = Rings.on(9);
                for (int cell = 0; cell < stands; cell++) {
                    x.stand(cell, 1);
                }
                x.rule(told, 0, 0, 10, GO);
                Check.due("told " + told + ", there are " + stands, x.does(0, 2), told == 0 || told == stands ? 0 : NONE);
            }
        }
        RingMeets tower = Rings.on(9, 0, 0, 0, 4);
        tower.rule(4, 0, 0, 10, GO);
        tower.rule(2, 0, 0, 10, GO);
        Check.due("a TOWER is one STAND", tower.does(0, 2), 1);
    }

    /** Also for what would be so of a number that is not there, if it were taken for 0. */
    private static void places() {
        for (int stands = 1; stands <= 5; stands++) {
            for (int place = 0; place <= 4; place++) {
                RingMeets x = Rings.on(9);
                for (int cell = 0; cell < stands; cell++) {
                    x.stand(cell, 1);
                }
                x.rule(0, place, 0, 10, GO);
                Check.due("place " + place + " of " + stands, x.does(0, 2), place < stands ? 0 : NONE);
            }
        }
        RingMeets told = Rings.on(9, 0, 4);
        told.rule(2, 2, 0, 10, GO);
        Check.due("a place that so many STANDS never have", told.does(0, 2), NONE);
        Check.due("and so they never meet", told.meets(ANY, 2), 3);
        Check.due("and it is not used", told.used(ANY), 0);
    }

    /** VIEW of the only STAND is N. */
    private static void numbers() {
        for (int cells = 3; cells <= 10; cells++) {
            for (int number = 1; number <= 10; number++) {
                boolean[] so = {cells < number, cells == number, cells > number};
                for (int how = 0; how < 3; how++) {
                    RingMeets x = Rings.on(cells, 0);
                    x.rule(1, 0, how, number, GO);
                    String name = cells + " asked by " + how + " of " + number;
                    Check.due(name, x.does(0, 2), so[how] ? 0 : NONE);
                }
            }
        }
        RingMeets x = Rings.on(10, 0, 1);
        x.rule(0, 0, 0, 1, GO);
        x.rule(0, 0, 2, 10, GO);
        Check.due("nothing is less than 1 or more than 10", x.does(0, 2), NONE);
        x.rule(0, 0, 1, 1, GO);
        Check.due("the least GAP is just 1", x.does(0, 2), 2);
    }

    private static void forWhom() {
        for (int n = 1; n <= 5; n++) {
            RingMeets x = Rings.on(9);
            x.stand(0, n);
            x.rule(0, 0, 0, 10, GO);
            Check.due(n + " WALKERS, at first", x.does(0, 2), 0);
            x.whom(0, 0);
            Check.due(n + " WALKERS, for single ones", x.does(0, 2), n == 1 ? 0 : NONE);
            x.whom(0, 1);
            Check.due(n + " WALKERS, for TOWERS", x.does(0, 2), n >= 2 ? 0 : NONE);
            x.whom(0, 2);
            Check.due(n + " WALKERS, for both", x.does(0, 2), 0);
        }
    }

    private static void sides() {
        int[][] due = {{0, 1, 6}, {3, 2, 4}};
        for (int done = 0; done < 3; done++) {
            RingMeets x = Rings.doing(done, 7, 0, 1, 3);
            Check.due("VIEW is up, done = " + done, x.does(0, 4), due[0][done]);
            Check.due("VIEW is down, done = " + done, x.does(3, 4), due[1][done]);
            Check.due("what is done", x.does(3, 3), done);
        }
        Check.due("EVEN goes up", Rings.doing(GO, 10, 4, 9).does(9, 4), 0);
        Check.due("EVEN flees down", Rings.doing(FLEE, 10, 0, 5).does(0, 4), 9);
        Check.due("FLEE up from the last CELL", Rings.doing(FLEE, 10, 9, 7).does(9, 4), 0);
        Check.due("FLEE down from CELL 0", Rings.doing(FLEE, 10, 0, 2).does(0, 4), 9);
    }

    private static void firstRule() {
        RingMeets x = Rings.on(7, 0, 1, 3);
        Check.due("no RULE: which", x.does(0, 2), NONE);
        Check.due("no RULE: WAITS", x.does(0, 3), WAIT);
        Check.due("no RULE: stays", x.does(0, 4), 0);
        for (int i = 0; i < 9; i++) {
            x.rule(4, 0, 0, 10, FLEE);
        }
        Check.due("none of nine: WAITS", x.does(0, 3), WAIT);
        Check.due("none of nine: which", x.does(0, 2), NONE);
        x.rule(3, 0, 0, 10, GO);
        Check.due("the tenth", x.does(0, 2), 9);
        Check.due("the tenth: GO", x.does(0, 3), GO);
        RingMeets y = Rings.on(7, 0, 1, 3);
        y.rule(3, 0, 0, 10, WAIT);
        y.rule(0, 0, 0, 10, GO);
        Check.due("both fit: the first", y.does(0, 2), 0);
        Check.due("both fit: WAITS", y.does(0, 3), WAIT);
        y.drop(0);
        Check.due("the first has gone", y.does(0, 3), GO);
    }

    private static void movers() {
        RingMeets x = Rings.on(9, 0, 1, 4);
        x.rule(3, 1, 1, 3, GO);
        Check.due("0 goes", x.does(0, 3), GO);
        Check.due("1 waits", x.does(1, 3), WAIT);
        Check.due("4 waits", x.does(4, 3), WAIT);
        for (int schedule = 0; schedule < 3; schedule++) {
            meets("one MOVER, then none", x, schedule, NONE, NONE, 3, 2, 1);
        }
        RingMeets flee = Rings.on(8, 0, 3);
        flee.rule(2, 0, 1, 3, FLEE);
        meets("who FLEES is a MOVER", flee, ONE, NONE, NONE, 3, 3, 2);
        RingMeets waits = Rings.doing(WAIT, 8, 0, 3);
        meets("who WAITS by a RULE is none", waits, ONE, NONE, NONE, 3, 1, 1);
    }

    // ---- STEPS

    private static void theSteps() {
        Edge.of("of each of these all WALKERS do at once what it does, as all was ahead of the STEP.", TermsEdgesTest::atOnce);
        Edge.of("(Two that go to one another's CELLS pass.)", TermsEdgesTest::pass);
        Edge.of("0 ONE: any one MOVER; 1 ALL: all MOVERS together; 2 ANY: any MOVERS, one or more.", TermsEdgesTest::schedules);
        Edge.of("Without MOVERS there is no STEP.", TermsEdgesTest::noMovers);
    }

    private static void atOnce() {
        RingMeets chase = Rings.going(7, 0, 1, 3);
        Check.due("0 to 1, 1 to 0, 3 to 2", chase.step(11), 3);
        Check.due("STANDS on 0, 1, 2", chase.count(2), 7);
        Check.due("no TOWER", chase.count(3), 0);
        RingMeets all = Rings.going(9, 8, 8, 8, 8, 1);
        Check.due("all four go", all.step(1 << 8), 2);
        Check.due("none is left", all.count(18), 0);
        Check.due("four on 0", all.count(10), 4);
        RingMeets three = Rings.going(6, 0, 1, 1, 2);
        Check.due("0 and 2 come, 1 goes up", three.step(7), 2);
        Check.due("two on 1", three.count(11), 2);
        Check.due("two on 2", three.count(12), 2);
    }

    private static void pass() {
        RingMeets x = Rings.going(3, 2, 0, 0);
        Check.due("over the edge", x.step(5), 2);
        Check.due("one on 0", x.count(10), 1);
        Check.due("two on 2", x.count(12), 2);
        meets("for ever", x, ALL, NONE, NONE, 3, 2, 0);
        RingMeets like = Rings.going(8, 3, 4);
        meets("two single ones: all is as it was", like, ALL, NONE, NONE, 3, 1, 0);
    }

    /** Two afar go up, as long as they are afar; behind that they WAIT. */
    private static void schedules() {
        RingMeets x = Rings.on(8, 0, 4);
        x.rule(2, 0, 1, 4, GO);
        meets("ONE", x, ONE, NONE, NONE, 3, 3, 2);
        meets("ALL", x, ALL, NONE, NONE, 3, 4, 0);
        meets("ANY", x, ANY, NONE, NONE, 3, 12, 8);
        RingMeets two = Rings.on(8, 0, 2);
        two.rule(2, 0, 1, 2, GO);
        meets("ONE goes, then none", two, ONE, NONE, NONE, 3, 3, 2);
        meets("ALL meet", two, ALL, 1, 1, 1, 2, 0);
        meets("ANY may", two, ANY, 1, NONE, 2, 4, 2);
    }

    private static void noMovers() {
        RingMeets x = Rings.on(8, 0, 3);
        x.rule(3, 0, 0, 10, GO);
        for (int schedule = 0; schedule < 3; schedule++) {
            meets("no RULE fits", x, schedule, NONE, NONE, 3, 1, 1);
            Check.due("no STEP is the first", x.first(schedule), NONE);
        }
        x.rule(2, 0, 0, 10, WAIT);
        for (int schedule = 0; schedule < 3; schedule++) {
            meets("all WAIT", x, schedule, NONE, NONE, 3, 1, 1);
        }
    }

    // ---- meeting

    private static void meeting() {
        Edge.of("MET: there is just one STAND; no STEP follows.", TermsEdgesTest::met);
        Edge.of("by how many STEPS, at the fewest, they have MET; NONE: they never can.", TermsEdgesTest::soon);
        Edge.of("by how many at the most, however the STEPS are chosen; NONE: they may go on for ever, "
                + "or there may be no STEP ahead of that.", TermsEdgesTest::late);
        Edge.of("0 they have MET, 1 LATE is not NONE, 2 LATE is NONE, but not SOON, 3 SOON is NONE.", TermsEdgesTest::kinds);
        Edge.of("from what is now on, now itself, too, ways to stand that differ in STANDS, or in which of these are TOWERS.",
                TermsEdgesTest::states);
    }

    private static void met() {
        for (int n = 1; n <= 5; n++) {
            RingMeets x = Rings.on(9);
            x.stand(8, n);
            x.rule(1, 0, 2, 1, GO);
            for (int schedule = 0; schedule < 3; schedule++) {
                meets(n + " on one CELL", x, schedule, 0, 0, 0, 1, 0);
            }
        }
        RingMeets two = Rings.on(9, 0, 1);
        two.rule(0, 0, 2, 1, GO);
        two.rule(2, 0, 1, 1, GO);
        meets("behind the meeting none goes on", two, ONE, 1, 1, 1, 3, 0);
        meets("two STANDS have not MET", Rings.on(9, 0, 1), ONE, NONE, NONE, 3, 1, 1);
    }

    private static void soon() {
        Check.due("0 STEPS: they have MET", Rings.going(10, 4, 4).meets(ONE, 0), 0);
        Check.due("1 STEP", Rings.going(10, 4, 5).meets(ONE, 0), 1);
        Check.due("the fewest of 3 and 4", Rings.going(10, 0, 1, 3).meets(ONE, 0), 3);
        Check.due("the fewest by ANY", Rings.going(5, 0, 2).meets(ANY, 0), 1);
        Check.due("they pass: never", Rings.going(10, 4, 5).meets(ALL, 0), NONE);
        Check.due("they stand still: never", Rings.on(10, 4, 5).meets(ANY, 0), NONE);
    }

    private static void late() {
        Check.due("0 STEPS: they have MET", Rings.going(10, 4, 4).meets(ANY, 1), 0);
        RingMeets x = Rings.going(10, 0, 1, 3);
        meets("the most of 3 and 4", x, ONE, 3, 4, 1);
        RingMeets ever = Rings.going(5, 0, 1);
        meets("they may go on for ever", ever, ANY, 1, NONE, 2, 3, 0);
        RingMeets still = Rings.on(8, 0, 2);
        still.rule(2, 0, 1, 2, GO);
        meets("there may be no STEP", still, ANY, 1, NONE, 2, 4, 2);
        meets("there is none now", Rings.on(8, 0, 2), ANY, NONE, NONE, 3, 1, 1);
    }

    private static void kinds() {
        Check.due("KIND 0, though LATE is not NONE", Rings.going(8, 0, 0).meets(ANY, 2), 0);
        Check.due("KIND 1, though SOON is not LATE", Rings.going(10, 0, 1, 3).meets(ONE, 2), 1);
        Check.due("KIND 2", Rings.going(5, 0, 1).meets(ANY, 2), 2);
        Check.due("KIND 3: for ever", Rings.going(5, 0, 1).meets(ALL, 2), 3);
        Check.due("KIND 3: no STEP", Rings.on(5, 0, 1).meets(ANY, 2), 3);
    }

    private static void states() {
        Check.due("now itself alone", Rings.on(8, 0, 3).meets(ANY, 3), 1);
        Check.due("now itself comes again: once", Rings.going(8, 3, 4).meets(ALL, 3), 1);
        Check.due("a TOWER and a single one change CELLS", Rings.going(8, 3, 3, 4).meets(ALL, 3), 2);
        Check.due("three and two change CELLS: both are TOWERS", Rings.going(8, 3, 3, 3, 4, 4).meets(ALL, 3), 1);
        Check.due("four and one as two and one", Rings.going(8, 3, 3, 3, 3, 4).meets(ALL, 3), 2);
        Check.due("a shape that is turned is another STATE", Rings.going(8, 0, 4).meets(ALL, 3), 4);
        towerComes("one comes up to one that WAITS", Rings.on(10, 0, 1, 4), 1, 1, 3, 3);
        towerComes("one comes down to one that WAITS", Rings.on(10, 5, 4, 1), 1, 1, 3, 3);
        towerComes("two come to a CELL", Rings.on(10, 0, 2, 6), 0, 1, 2, 5);
        towerComes("two come to a CELL over the edge", Rings.on(10, 9, 1, 5), 0, 1, 2, 5);
        towerComes("one comes up to CELL 0", Rings.on(10, 9, 0, 3), 1, 1, 3, 3);
        towerComes("one comes down to the last CELL", Rings.on(10, 0, 9, 6), 1, 1, 3, 3);
    }

    /** RULE 0 lets some of three go; two STANDS are left then, of which RULE 1 asks for the TOWER. */
    private static void towerComes(String name, RingMeets x, int place, int how, int number, int gap) {
        x.rule(3, place, how, number, GO);
        x.rule(2, 0, 1, gap, WAIT);
        x.whom(1, 1);
        Check.due(name + ": a TOWER", x.used(ALL), 3);
        Check.due(name + ": STATES", x.meets(ALL, 3), 2);
        x.whom(1, 0);
        Check.due(name + ": a single one is left", x.used(ALL), 3);
    }
}
