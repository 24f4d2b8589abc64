/** Promise 7: what is told of the faults that were found latest. */
public final class FaultTest {
    private static final int[] ENDS = {-1, 5, 100, Integer.MIN_VALUE, Integer.MAX_VALUE};

    public static void main(String[] args) {
        Checks c = new Checks();
        parts(c);
        noneSuch(c);
        foundLatest(c);
        c.end();
    }

    private static void parts(Checks c) {
        SortPlans x = c.planOf("T11,0-9,0;T12,0-9,0;B11,1,2,33;B12,1,2,33;", 4);
        c.due("check", x.check(), 3);
        c.dueFault(x, 0, 2, 0, 11, 0, 0);
        c.dueFault(x, 1, 2, 0, 12, 0, 0);
        c.dueFault(x, 2, 2, 1, 11, 12, 33);
    }

    private static void noneSuch(Checks c) {
        SortPlans without = new SortPlans();
        SortPlans x = c.planOf("T1,0-9,0;T2,0-9,0;B1,0,0,5;B2,0,0,5;", 4);
        c.dueNoFault(x, 0);
        c.due("check", x.check(), 1);
        c.dueNoFault(x, 1);
        for (int end : ENDS) {
            c.dueNoFault(x, end);
            c.dueNoFault(without, end);
            c.due("fault(0, " + end + ")", x.fault(0, end), -1);
            c.due("fault(" + end + ", " + end + ")", x.fault(end, end), -1);
        }
    }

    /** Only check finds faults: what comes after it leaves them as they are. */
    private static void foundLatest(Checks c) {
        SortPlans x = c.planOf("T1,0-9,0;T2,0-9,0;B1,0,0,5;B2,0,0,5;", 4);
        c.due("check", x.check(), 1);
        x.swap(5, 6);
        x.hold(1, true);
        c.dueFault(x, 0, 0, 0, 1, 2, 5);
        c.due("read", Checks.readOf(x, "T7,0-9,0;B8,0,0,1;"), 2);
        c.dueFault(x, 0, 0, 0, 1, 2, 5);
        c.due("check", x.check(), 1);
        c.dueFault(x, 0, 0, 0, 7, 0, 0);
    }
}
