/** Promise 5: the bin of a target in a pass and shift. */
public final class BinTest {
    public static void main(String[] args) {
        Checks c = new Checks();
        everySlot(c);
        held(c);
        refusals(c);
        c.end();
    }

    /** Each slot alone has a bin, and no other has one then. */
    private static void everySlot(Checks c) {
        for (int n = 0; n < 40 * 12; n++) {
            int target = n / 12 + 1;
            int pass = n % 12 / 3;
            int shift = n % 3;
            int bin = n % 60 + 1;
            SortPlans x = c.planOf("B" + target + "," + pass + "," + shift + "," + bin + ";", 1);
            for (int other = 0; other < 40 * 12; other++) {
                c.due("bin of slot " + other + ", set is " + n,
                    x.bin(other / 12 + 1, other % 12 / 3, other % 3), other == n ? bin : 0);
            }
        }
    }

    private static void held(Checks c) {
        SortPlans x = c.planOf("B1,0,0,5;B2,0,0,6+;", 2);
        x.hold(1, true);
        c.due("bin of the held one", x.bin(1, 0, 0), 0);
        c.due("bin of the other one", x.bin(2, 0, 0), 6);
        x.hold(1, false);
        c.due("bin of the one not held", x.bin(1, 0, 0), 5);
    }

    private static void refusals(Checks c) {
        SortPlans without = new SortPlans();
        SortPlans with = c.planOf("B1,0,0,5;", 1);
        int[] noTargets = {0, 41, -1, Integer.MIN_VALUE, Integer.MAX_VALUE};
        int[][] outside = {{-1, 0}, {4, 0}, {0, -1}, {0, 3}, {9, 9},
            {Integer.MIN_VALUE, 0}, {Integer.MAX_VALUE, 0}, {0, Integer.MIN_VALUE}, {0, Integer.MAX_VALUE}};
        for (SortPlans x : new SortPlans[] {without, with}) {
            for (int target : noTargets) {
                c.due("bin(" + target + ", 0, 0)", x.bin(target, 0, 0), Checks.UNKNOWN);
                c.due("bin(" + target + ", 4, 3)", x.bin(target, 4, 3), Checks.UNKNOWN);
            }
            for (int[] o : outside) {
                c.due("bin(1, " + o[0] + ", " + o[1] + ")", x.bin(1, o[0], o[1]), Checks.OUTSIDE);
            }
        }
        c.due("bin(40, 3, 2) without a plan", without.bin(40, 3, 2), Checks.STATE);
        c.due("bin(40, 3, 2)", with.bin(40, 3, 2), 0);
    }
}
