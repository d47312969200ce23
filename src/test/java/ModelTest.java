import java.util.ArrayList;
import java.util.Arrays;
import java.util.List;
import java.util.Random;

/** Long runs of calls, the same ones each time, on RingMeets and on Model: both must answer alike. */
final class ModelTest {
    private static final int RUNS = Integer.getInteger("runs", 400);
    private static final int CALLS = 120;
    private static final int[] FAR = {Integer.MIN_VALUE, Integer.MAX_VALUE, -7, 32, 1 << 30};

    private static final String[] NAMES = {
        "ring", "stand", "gap", "shape", "rule", "whom", "drop", "of", "does", "step", "meets",
        "first", "blind", "used", "all", "image", "restore", "count"
    };
    private static final int[] OFTEN = {3, 24, 6, 6, 14, 8, 3, 3, 10, 12, 16, 6, 6, 6, 1, 3, 3, 8};

    private ModelTest() {
    }

    public static void main(String[] args) {
        for (int run = 0; run < RUNS && Check.wrongs() < 5; run++) {
            run(run);
        }
        Check.end();
    }

    private static void run(int seed) {
        Random random = new Random(seed);
        RingMeets x = new RingMeets();
        Model model = new Model();
        List<String> told = new ArrayList<>();
        for (int i = 0; i < CALLS; i++) {
            String name = NAMES[pick(random)];
            int[] a = arguments(name, random, x);
            String call = name + Arrays.toString(a);
            int due = model.call(name, a);
            int got = call(x, name, a);
            told.add(call + " = " + due);
            Check.due("run " + seed + ": " + call, got, due);
            if (got != due) {
                System.out.println(String.join("\n", told));
                return;
            }
        }
    }

    private static int pick(Random random) {
        int at = random.nextInt(Arrays.stream(OFTEN).sum());
        int i = 0;
        while (at >= OFTEN[i]) {
            at -= OFTEN[i];
            i++;
        }
        return i;
    }

    private static int between(Random random, int least, int most) {
        if (random.nextInt(150) == 0) {
            return FAR[random.nextInt(FAR.length)];
        }
        if (random.nextInt(40) == 0) {
            return random.nextBoolean() ? least - 1 : most + 1;
        }
        return least + random.nextInt(most - least + 1);
    }

    private static int someStand(Random random, RingMeets x) {
        for (int i = 0; i < 20; i++) {
            int cell = random.nextInt(10);
            if (x.count(10 + cell) > 0) {
                return cell;
            }
        }
        return between(random, 0, 9);
    }

    private static int[] arguments(String name, Random r, RingMeets x) {
        int lastRule = Math.max(0, x.count(4) - 1);
        switch (name) {
            case "ring": return new int[] {between(r, 3, 10)};
            case "stand": return new int[] {between(r, 0, x.count(0) - 1), r.nextInt(3) == 0 ? between(r, 0, 5) : 1};
            case "gap": return new int[] {someStand(r, x), between(r, 0, 2), between(r, -1, 4)};
            case "shape": return new int[] {between(r, 0, 5)};
            case "rule": return new int[] {
                r.nextInt(2) * between(r, 0, 5), r.nextInt(2) * between(r, 0, 4), between(r, 0, 2),
                1 + between(r, 0, r.nextBoolean() ? 3 : 9), r.nextBoolean() ? 1 : between(r, 0, 2)};
            case "whom": return new int[] {between(r, 0, lastRule), between(r, 0, 2)};
            case "drop": return new int[] {between(r, 0, lastRule)};
            case "of": return new int[] {between(r, 0, lastRule), between(r, 0, 5)};
            case "does": return new int[] {someStand(r, x), between(r, 0, 4)};
            case "step": return new int[] {r.nextInt(8) == 0 ? between(r, 0, 1023) : x.count(2) & r.nextInt()};
            case "meets": return new int[] {between(r, 0, 2), between(r, 0, 4)};
            case "all": return new int[] {between(r, 1, x.count(0) > 7 ? 3 : 5), between(r, 0, 2), between(r, 0, 3)};
            case "image":
            case "restore": return new int[] {between(r, 0, 1)};
            case "count": return new int[] {between(r, 0, 19)};
            default: return new int[] {between(r, 0, 2)};
        }
    }

    private static int call(RingMeets x, String name, int[] a) {
        switch (name) {
            case "ring": return x.ring(a[0]);
            case "stand": return x.stand(a[0], a[1]);
            case "gap": return x.gap(a[0], a[1], a[2]);
            case "shape": return x.shape(a[0]);
            case "rule": return x.rule(a[0], a[1], a[2], a[3], a[4]);
            case "whom": return x.whom(a[0], a[1]);
            case "drop": return x.drop(a[0]);
            case "of": return x.of(a[0], a[1]);
            case "does": return x.does(a[0], a[1]);
            case "step": return x.step(a[0]);
            case "meets": return x.meets(a[0], a[1]);
            case "first": return x.first(a[0]);
            case "blind": return x.blind(a[0]);
            case "used": return x.used(a[0]);
            case "all": return x.all(a[0], a[1], a[2]);
            case "image": return x.image(a[0]);
            case "restore": return x.restore(a[0]);
            case "count": return x.count(a[0]);
            default: throw new IllegalArgumentException(name);
        }
    }
}
