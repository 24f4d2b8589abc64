/** Promise 9: how many targets have another bin in an edition than in the plan. */
public final class CompareTest {
    public static void main(String[] args) {
        Checks c = new Checks();
        ordinary(c);
        exchangedAndHeld(c);
        everySlot(c);
        allTargets(c);
        refusals(c);
        c.end();
    }

    private static void ordinary(Checks c) {
        SortPlans x = c.planOf("T1,0-9,0;B1,0,0,5;B2,0,0,6;B3,3,2,7;B4,0,0,8+;", 5);
        c.due("with itself", x.compare(0), 0);
        c.due("read", Checks.readOf(x, "B1,0,0,5;B2,0,0,7;B3,3,1,7;B4,0,0,8;B5,0,0,1;B5,1,0,1;"), 6);
        // Another bin: target 2; one more and one less: target 3; none before: target 5.
        c.due("with the one before", x.compare(0), 3);
        c.due("with itself", x.compare(1), 0);
        c.due("read of nothing", x.read(), 0);
        c.due("with the first", x.compare(0), 4);
        c.due("with the second", x.compare(1), 5);
        c.due("with itself", x.compare(2), 0);
    }

    private static void exchangedAndHeld(Checks c) {
        SortPlans x = c.planOf("B1,0,0,5;B2,0,0,6;B3,0,0,7;", 3);
        x.hold(3, true);
        c.due("held or not", x.compare(0), 0);
        x.swap(5, 6);
        c.due("as it was read", x.compare(0), 2);
        x.swap(6, 5);
        c.due("exchanged back", x.compare(0), 0);
        x.swap(5, 60);
        c.due("read", Checks.readOf(x, "B1,0,0,60;B2,0,0,6;B3,0,0,7;"), 3);
        c.due("the first as it was read", x.compare(0), 1);
    }

    private static void everySlot(Checks c) {
        for (int n = 0; n < 40 * 12; n++) {
            String place = "B" + (n / 12 + 1) + "," + n % 12 / 3 + "," + n % 3 + ",";
            SortPlans x = c.planOf(place + "1;", 1);
            c.due("read", Checks.readOf(x, place + "2;"), 1);
            c.due("compare of " + place, x.compare(0), 1);
        }
    }

    /** A target counts once, however many of its bins are others; and all forty of them count. */
    private static void allTargets(Checks c) {
        StringBuilder all = new StringBuilder();
        for (int target = 1; target <= 40; target++) {
            all.append("B" + target + ",0,0,1;");
        }
        SortPlans x = c.planOf(all.toString(), 40);
        c.due("no target", x.compare(0), 0);
        c.due("swap", x.swap(1, 2), 40);
        c.due("all targets, exchanged", x.compare(0), 40);
        c.due("read of nothing", x.read(), 0);
        c.due("all targets, without a bin", x.compare(0), 40);
        StringBuilder one = new StringBuilder();
        for (int n = 0; n < 12; n++) {
            one.append("B7," + n % 4 + "," + n / 4 + ",9;");
        }
        SortPlans y = c.planOf(one.toString(), 12);
        c.due("swap", y.swap(9, 10), 12);
        c.due("one target twelve times", y.compare(0), 1);
    }

    private static void refusals(Checks c) {
        SortPlans x = new SortPlans();
        for (int edition : new int[] {-1, 8, Integer.MIN_VALUE, Integer.MAX_VALUE}) {
            c.due("compare(" + edition + ") without a plan", x.compare(edition), Checks.UNKNOWN);
        }
        for (int edition = 0; edition < 8; edition++) {
            c.due("compare(" + edition + ") without a plan", x.compare(edition), Checks.STATE);
        }
        for (int count = 1; count <= 8; count++) {
            x.read();
            for (int edition = -1; edition <= 8; edition++) {
                boolean known = edition >= 0 && edition < count;
                c.due("compare(" + edition + ") of " + count, x.compare(edition), known ? 0 : Checks.UNKNOWN);
            }
        }
        c.due("compare of the least number", x.compare(Integer.MIN_VALUE), Checks.UNKNOWN);
        c.due("compare of the greatest number", x.compare(Integer.MAX_VALUE), Checks.UNKNOWN);
    }
}
