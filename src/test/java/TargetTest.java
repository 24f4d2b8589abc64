/** Promise 4: the least target of a code and kind. */
public final class TargetTest {
    public static void main(String[] args) {
        Checks c = new Checks();
        ordinary(c);
        edges(c);
        refusals(c);
        c.end();
    }

    private static void ordinary(Checks c) {
        SortPlans x = c.planOf("T7,10-20,3;T5,15-30,3;T6,15-15,3;T5,100-200,4;T40,0-9999,9;B1,0,0,1;", 6);
        c.due("before from", x.target(9, 3), 0);
        c.due("from", x.target(10, 3), 7);
        c.due("greatest of one alone", x.target(14, 3), 7);
        c.due("least of three", x.target(15, 3), 5);
        c.due("least of two", x.target(20, 3), 5);
        c.due("to", x.target(30, 3), 5);
        c.due("behind to", x.target(31, 3), 0);
        c.due("second sentence", x.target(150, 4), 5);
        c.due("other kind", x.target(150, 3), 0);
        c.due("a B alone", x.target(1, 1), 0);
        c.due("held or not", x.hold(5, true), 1);
        c.due("least of three, held", x.target(15, 3), 5);
    }

    private static void edges(Checks c) {
        SortPlans x = c.planOf("T40,0-9999,9;T1,9999-9999,0;T2,0-0,0;", 3);
        c.due("first code", x.target(0, 9), 40);
        c.due("last code", x.target(9999, 9), 40);
        c.due("code of one", x.target(9999, 0), 1);
        c.due("beside it", x.target(9998, 0), 0);
        c.due("code 0", x.target(0, 0), 2);
        c.due("code 1", x.target(1, 0), 0);
    }

    private static void refusals(Checks c) {
        int[][] outside = {{-1, 0}, {10000, 0}, {0, -1}, {0, 10}, {-1, 10},
            {Integer.MIN_VALUE, 0}, {Integer.MAX_VALUE, 0}, {0, Integer.MIN_VALUE}, {0, Integer.MAX_VALUE}};
        SortPlans without = new SortPlans();
        SortPlans with = c.planOf("T1,0-9999,0;", 1);
        for (int[] o : outside) {
            String call = "target(" + o[0] + ", " + o[1] + ")";
            c.due(call + " without a plan", without.target(o[0], o[1]), Checks.OUTSIDE);
            c.due(call, with.target(o[0], o[1]), Checks.OUTSIDE);
        }
        c.due("target(9999, 9) without a plan", without.target(9999, 9), Checks.STATE);
    }
}
