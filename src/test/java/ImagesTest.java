/** Promises 17 to 19: image, restore, count. */
final class ImagesTest {
    private static final int OUTSIDE = -2, STATE = -3;
    private static final int LOW = Integer.MIN_VALUE, HIGH = Integer.MAX_VALUE;

    public static void main(String[] args) {
        refused();
        keeps();
        stays();
        count();
        Check.end();
    }

    private static void refused() {
        RingMeets x = new RingMeets();
        for (int k : new int[] {-1, 2, LOW, HIGH}) {
            Check.due("image(" + k + ")", x.image(k), OUTSIDE);
            Check.due("restore(" + k + ")", x.restore(k), OUTSIDE);
        }
        Check.due("nothing is kept", x.count(5), 0);
        Check.due("restore(0)", x.restore(0), STATE);
        Check.due("image(1)", x.image(1), 1);
        Check.due("the second is kept", x.count(5), 2);
        Check.due("restore(0) still", x.restore(0), STATE);
        Check.due("restore(1)", x.restore(1), 1);
        Check.due("image(0)", x.image(0), 1);
        Check.due("both are kept", x.count(5), 3);
    }

    private static void keeps() {
        RingMeets x = new RingMeets();
        x.ring(10);
        x.stand(9, 2);
        x.stand(1, 1);
        x.rule(2, 1, 0, 9, 2);
        x.whom(0, 1);
        x.rule(3, 2, 1, 4, 1);
        x.image(0);
        x.drop(0);
        x.whom(0, 0);
        x.ring(4);
        x.stand(2, 4);
        x.image(1);
        Check.due("restore(0)", x.restore(0), 1);
        Check.due("N", x.count(0), 10);
        Check.due("WALKERS", x.count(1), 3);
        Check.due("STANDS", x.count(2), 514);
        Check.due("TOWERS", x.count(3), 512);
        Check.due("RULES", x.count(4), 2);
        int[][] due = {{2, 1, 0, 9, 2, 1}, {3, 2, 1, 4, 1, 2}};
        for (int rule = 0; rule < 2; rule++) {
            for (int what = 0; what < 6; what++) {
                Check.due("of(" + rule + ", " + what + ")", x.of(rule, what), due[rule][what]);
            }
        }
        Check.due("IMAGES are not in an IMAGE", x.count(5), 3);
        x.restore(1);
        Check.due("the other: N", x.count(0), 4);
        Check.due("the other: STANDS", x.count(2), 4);
        Check.due("the other: WALKERS", x.count(12), 4);
        Check.due("the other: RULES", x.count(4), 1);
        Check.due("the other: for whom", x.of(0, 5), 0);
        Check.due("it meets by its own ring", x.meets(0, 3), 1);
    }

    private static void stays() {
        RingMeets x = new RingMeets();
        x.stand(3, 1);
        x.rule(0, 0, 0, 10, 1);
        x.image(0);
        for (int i = 0; i < 3; i++) {
            x.stand(3, 2);
            x.stand(4, 1);
            x.whom(0, 0);
            x.rule(0, 0, 0, 10, 2);
            Check.due("restore(0)", x.restore(0), 1);
            Check.due("STANDS", x.count(2), 8);
            Check.due("TOWERS", x.count(3), 0);
            Check.due("RULES", x.count(4), 1);
            Check.due("for whom", x.of(0, 5), 2);
        }
        x.stand(6, 1);
        x.image(0);
        x.ring(5);
        x.restore(0);
        Check.due("in place of what was kept", x.count(2), 72);
        Check.due("a restored rule is used", x.used(0), 1);
    }

    private static void count() {
        RingMeets x = new RingMeets();
        for (int what : new int[] {-1, 6, 7, 8, 9, 20, 21, LOW, HIGH}) {
            Check.due("count(" + what + ")", x.count(what), OUTSIDE);
        }
        x.stand(0, 2);
        x.stand(7, 1);
        Check.due("N", x.count(0), 8);
        Check.due("WALKERS", x.count(1), 3);
        Check.due("STANDS", x.count(2), 129);
        Check.due("TOWERS", x.count(3), 1);
        Check.due("on 0", x.count(10), 2);
        Check.due("on 1", x.count(11), 0);
        Check.due("on 7", x.count(17), 1);
        Check.due("8 is not there", x.count(18), 0);
        Check.due("9 is not there", x.count(19), 0);
    }
}
