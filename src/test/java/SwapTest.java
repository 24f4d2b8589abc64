/** Promise 10: two bins are exchanged in the plan. */
public final class SwapTest {
    public static void main(String[] args) {
        Checks c = new Checks();
        ordinary(c);
        goingOnStays(c);
        sharingGoesWithTheTarget(c);
        edges(c);
        refusals(c);
        c.end();
    }

    private static void ordinary(Checks c) {
        SortPlans x = c.planOf("T1,0-9,0;B1,0,0,5;B1,3,2,6;B2,1,1,5+;B3,0,0,7;", 5);
        x.hold(1, true);
        c.due("swap", x.swap(5, 6), 3);
        x.hold(1, false);
        c.due("bin", x.bin(1, 0, 0), 6);
        c.due("bin", x.bin(1, 3, 2), 5);
        c.due("bin", x.bin(2, 1, 1), 6);
        c.due("bin", x.bin(3, 0, 0), 7);
        c.due("swap with a bin that is not there", x.swap(8, 7), 1);
        c.due("bin", x.bin(3, 0, 0), 8);
        c.due("swap of bins that are not there", x.swap(1, 2), 0);
        c.due("swap with itself", x.swap(6, 6), 2);
        c.due("bin", x.bin(1, 0, 0), 6);
        c.due("swap with itself, not there", x.swap(9, 9), 0);
    }

    private static void goingOnStays(Checks c) {
        SortPlans x = c.planOf("B1,0,0,5;O5,6;O6,7;", 3);
        c.due("swap", x.swap(5, 7), 1);
        c.due("overflow(5)", x.overflow(5), 7);
        c.due("overflow(7)", x.overflow(7), 7);
    }

    private static void sharingGoesWithTheTarget(Checks c) {
        SortPlans x = c.planOf("T1,0-9,0;T2,0-9,0;T3,0-9,0;B1,0,0,5+;B2,0,0,5+;B3,0,0,6;", 6);
        c.due("check", x.check(), 0);
        c.due("swap", x.swap(5, 6), 3);
        c.due("check", x.check(), 0);
        c.dueText("sheet", Checks.sheetOf(x), "5:3;6:1,2;");
    }

    private static void edges(Checks c) {
        SortPlans x = c.planOf("B1,0,0,1;B40,3,2,60;", 2);
        c.due("swap", x.swap(1, 60), 2);
        c.due("bin", x.bin(1, 0, 0), 60);
        c.due("bin", x.bin(40, 3, 2), 1);
        c.due("swap back", x.swap(1, 60), 2);
        c.due("bin", x.bin(1, 0, 0), 1);
        c.due("bin", x.bin(40, 3, 2), 60);
        c.due("swap", x.swap(60, 2), 1);
        c.due("bin", x.bin(40, 3, 2), 2);
    }

    private static void refusals(Checks c) {
        SortPlans without = new SortPlans();
        SortPlans with = c.planOf("B1,0,0,5;", 1);
        for (int bin : new int[] {0, 61, -1, Integer.MIN_VALUE, Integer.MAX_VALUE}) {
            c.due("swap(" + bin + ", 1) without a plan", without.swap(bin, 1), Checks.UNKNOWN);
            c.due("swap(1, " + bin + ") without a plan", without.swap(1, bin), Checks.UNKNOWN);
            c.due("swap(" + bin + ", 5)", with.swap(bin, 5), Checks.UNKNOWN);
            c.due("swap(5, " + bin + ")", with.swap(5, bin), Checks.UNKNOWN);
            c.due("swap(" + bin + ", " + bin + ")", with.swap(bin, bin), Checks.UNKNOWN);
        }
        c.due("bin", with.bin(1, 0, 0), 5);
        c.due("bin of none", with.bin(2, 0, 0), 0);
        c.due("swap(60, 60) without a plan", without.swap(60, 60), Checks.STATE);
    }
}
