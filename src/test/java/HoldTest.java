/** Promise 8: targets are held, or not. */
public final class HoldTest {
    public static void main(String[] args) {
        Checks c = new Checks();
        ordinary(c);
        everyTarget(c);
        untilTheNextPlan(c);
        refusals(c);
        c.end();
    }

    private static void ordinary(Checks c) {
        SortPlans x = c.planOf("B1,0,0,5;B1,3,2,6;B2,0,0,7;", 3);
        c.due("not held at first", x.hold(1, false), 0);
        c.due("on", x.hold(1, true), 1);
        c.due("on again", x.hold(1, true), 0);
        c.due("bin", x.bin(1, 0, 0), 0);
        c.due("bin in another pass", x.bin(1, 3, 2), 0);
        c.due("bin of another", x.bin(2, 0, 0), 7);
        c.due("off", x.hold(1, false), 1);
        c.due("off again", x.hold(1, false), 0);
        c.due("bin", x.bin(1, 0, 0), 5);
        c.due("bin in another pass", x.bin(1, 3, 2), 6);
    }

    private static void everyTarget(Checks c) {
        SortPlans x = c.planOf("", 0);
        for (int target = 1; target <= 40; target++) {
            c.due("on " + target, x.hold(target, true), 1);
        }
        for (int target = 1; target <= 40; target++) {
            c.due("off " + target, x.hold(target, false), 1);
        }
    }

    private static void untilTheNextPlan(Checks c) {
        SortPlans x = c.planOf("B1,0,0,5;", 1);
        x.hold(1, true);
        c.due("read", Checks.readOf(x, "B1,0,0,6;"), 1);
        c.due("bin", x.bin(1, 0, 0), 6);
        c.due("off", x.hold(1, false), 0);
        x.hold(1, true);
        c.due("read of a bad text", Checks.readOf(x, "B1"), -3);
        c.due("bin, still held", x.bin(1, 0, 0), 0);
        c.due("on, still held", x.hold(1, true), 0);
    }

    private static void refusals(Checks c) {
        SortPlans without = new SortPlans();
        SortPlans with = c.planOf("", 0);
        for (int target : new int[] {0, 41, -1, Integer.MIN_VALUE, Integer.MAX_VALUE}) {
            c.due("hold(" + target + ") without a plan", without.hold(target, true), Checks.UNKNOWN);
            c.due("hold(" + target + ")", with.hold(target, true), Checks.UNKNOWN);
            c.due("hold(" + target + ") off", with.hold(target, false), Checks.UNKNOWN);
        }
        c.due("hold(40) without a plan", without.hold(40, true), Checks.STATE);
        without.read();
        c.due("what was refused changed nothing", without.hold(40, true), 1);
    }
}
