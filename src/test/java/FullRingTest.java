import java.lang.reflect.Field;

/** Five WALKERS on ten CELLS: the most WAYS and STEPS that there can be, and the most calls. */
final class FullRingTest {
    private static final int ANY = 2;
    /** Lists of RULES, each with for whom it is. */
    private static final int[][][] LISTS = {
        {{0, 0, 2, 1, 1, 2}, {0, 0, 1, 1, 2, 2}},
        {{0, 0, 0, 3, 1, 2}, {3, 2, 2, 4, 2, 0}, {0, 0, 2, 2, 1, 1}},
        {{0, 0, 0, 10, 1, 2}},
        {{5, 0, 1, 1, 1, 2}, {4, 1, 2, 2, 1, 0}, {0, 0, 0, 5, 1, 1}, {2, 0, 2, 1, 1, 0}},
    };

    private FullRingTest() {
    }

    public static void main(String[] args) throws ReflectiveOperationException {
        for (int[][] list : LISTS) {
            likeModel(list);
        }
        allThatCan();
        roomForAll();
        manyCalls();
        Check.end();
    }

    private static void likeModel(int[][] list) {
        RingMeets x = new RingMeets();
        Model model = new Model();
        x.ring(10);
        model.call("ring", new int[] {10});
        for (int[] r : list) {
            int rule = x.rule(r[0], r[1], r[2], r[3], r[4]);
            x.whom(rule, r[5]);
            model.call("rule", r);
            model.call("whom", new int[] {rule, r[5]});
        }
        for (int cell : new int[] {0, 1, 4, 6, 9}) {
            x.stand(cell, 1);
            model.call("stand", new int[] {cell, 1});
        }
        for (int schedule = 0; schedule < 3; schedule++) {
            for (int what = 0; what < 5; what++) {
                int due = model.call("meets", new int[] {schedule, what});
                Check.due("meets(" + schedule + ", " + what + ")", x.meets(schedule, what), due);
            }
            int[] only = {schedule};
            Check.due("first(" + schedule + ")", x.first(schedule), model.call("first", only));
            Check.due("blind(" + schedule + ")", x.blind(schedule), model.call("blind", only));
            Check.due("used(" + schedule + ")", x.used(schedule), model.call("used", only));
            for (int kind = 1; kind < 4; kind++) {
                int due = model.call("all", new int[] {5, schedule, kind});
                Check.due("all(5, " + schedule + ", " + kind + ")", x.all(5, schedule, kind), due);
            }
        }
    }

    /** By ANY every WAY of five can come, if all go or flee: 1957 of them are there in all. */
    private static void allThatCan() {
        RingMeets x = new RingMeets();
        x.ring(10);
        x.rule(0, 0, 0, 2, 2);
        x.rule(0, 0, 2, 1, 1);
        for (int cell = 0; cell < 5; cell++) {
            x.stand(cell, 1);
        }
        Model model = new Model();
        model.call("ring", new int[] {10});
        model.call("rule", new int[] {0, 0, 0, 2, 2});
        model.call("rule", new int[] {0, 0, 2, 1, 1});
        for (int cell = 0; cell < 5; cell++) {
            model.call("stand", new int[] {cell, 1});
        }
        int[] states = {ANY, 3};
        Check.due("STATES that can come", x.meets(ANY, 3), model.call("meets", states));
        Check.holds("they are many", x.meets(ANY, 3) > 1900);
    }

    /**
     * A look inside, as no answer tells it: a STEP that found no room would be lost in silence,
     * and most that are lost have a turned like that leads to the same answer.
     */
    private static void roomForAll() throws ReflectiveOperationException {
        RingMeets x = new RingMeets();
        x.ring(10);
        x.rule(0, 0, 0, 2, 2);
        x.rule(0, 0, 2, 1, 1);
        x.all(5, ANY, 3);
        Object walks = inside(x, "walks");
        Check.due("WAYS that are kept", (Integer) inside(walks, "size"), 252 + 210 * 4 + 120 * 6 + 45 * 3 + 10);
        Check.due("STEPS that are kept", (Integer) inside(walks, "steps"),
                252 * 31 + 210 * 4 * 15 + 120 * 6 * 7 + 45 * 3 * 3);
        int kept = 0;
        for (int way = 0; way < (Integer) inside(walks, "size"); way++) {
            int step = ((int[]) inside(walks, "lastStepTo"))[way];
            while (step >= 0) {
                kept++;
                step = ((int[]) inside(walks, "earlierStep"))[step];
            }
        }
        Check.due("STEPS in chains", kept, (Integer) inside(walks, "steps"));
    }

    private static Object inside(Object object, String name) throws ReflectiveOperationException {
        Field field = object.getClass().getDeclaredField(name);
        field.setAccessible(true);
        return field.get(object);
    }

    private static void manyCalls() {
        RingMeets x = new RingMeets();
        x.ring(10);
        x.rule(0, 0, 2, 1, 1);
        x.rule(0, 0, 1, 1, 2);
        int due = x.all(5, ANY, 3);
        for (int i = 3; i < 512; i++) {
            Check.due("call " + i, x.all(5, ANY, 3), due);
        }
    }
}
