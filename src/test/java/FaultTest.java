/** Promise 7: what is told of the faults that were found latest. */
public final class FaultTest {
    private static final int[] ENDS = {-1, 5, 100, Integer.MIN_VALUE, Integer.MAX_VALUE};

    public static void main(String[] args) {
        Checks c = new Checks();
        parts(c);
        noneSuch(c);
        whatThereIs(c);
        firstHundred(c);
        fewerThanBefore(c);
        foundLatest(c);
        c.end();
    }

    private static void parts(Checks c) {
        SortPlans x = c.planOf("T11,0-9,0;T12,0-9,0;B11,1,2,33;B12,1,2,33;", 4);
        c.due("check", x.check(), 3);
        c.dueFault(x, 0, 2, 0, 11, 0, 0);
        c.dueFault(x, 1, 2, 0, 12, 0, 0);
        c.dueFault(x, 2, 2, 1, 11, 12, 33);
    }

    private static void noneSuch(Checks c) {
        SortPlans without = new SortPlans();
        SortPlans x = c.planOf("T1,0-9,0;T2,0-9,0;B1,0,0,5;B2,0,0,5;", 4);
        c.dueNoFault(x, 0);
        c.due("check", x.check(), 1);
        c.dueNoFault(x, 1);
        for (int end : ENDS) {
            c.dueNoFault(x, end);
            c.dueNoFault(without, end);
            c.due("fault(0, " + end + ")", x.fault(0, end), -1);
            c.due("fault(" + end + ", " + end + ")", x.fault(end, end), -1);
        }
    }

    /** "what = 0 .. 4": the last that is one, and the first that is not, at both ends. */
    private static void whatThereIs(Checks c) {
        SortPlans x = c.planOf("T3,0-9,0;T4,0-9,0;B3,0,2,5;B4,0,2,5;", 4);
        c.due("check", x.check(), 1);
        c.due("before the shift", x.fault(0, -1), -1);
        c.due("the shift", x.fault(0, 0), 2);
        c.due("the bin", x.fault(0, 4), 5);
        c.due("behind the bin", x.fault(0, 5), -1);
        c.due("before the first fault", x.fault(-1, 0), -1);
        c.due("before the first fault, with a what behind the last", x.fault(-1, 5), -1);
        c.due("behind the last fault", x.fault(1, 0), -1);
        c.due("behind the last fault, with a what before the first", x.fault(1, -1), -1);
    }

    /** "the first 100 are told", "-1 when .. it was not told": 100 holes and doubles are, the next one is not. */
    private static void firstHundred(Checks c) {
        StringBuilder used = new StringBuilder();
        for (int target = 1; target <= 25; target++) {
            used.append("T" + target + ",0-0,0;");
        }
        // In pass 3, 19 holes stand before the six doubles of bin 1 and the one of bin 2.
        String four = "B1,3,0,1;B2,3,0,1;B3,3,0,1;B4,3,0,1;";
        SortPlans x = c.planOf(used + four + "B5,3,0,2;B6,3,0,2;", 31);
        c.due("check of 101 faults", x.check(), 101);
        c.dueFault(x, 0, 0, 0, 1, 0, 0);
        c.dueFault(x, 74, 0, 2, 25, 0, 0);
        c.dueFault(x, 75, 0, 3, 7, 0, 0);
        c.dueFault(x, 93, 0, 3, 25, 0, 0);
        c.dueFault(x, 94, 0, 3, 1, 2, 1);
        c.dueFault(x, 98, 0, 3, 2, 4, 1);
        c.dueFault(x, 99, 0, 3, 3, 4, 1);
        c.dueNoFault(x, 100);
        SortPlans y = c.planOf(used + four + "B5,3,0,2;B6,3,0,3;", 31);
        c.due("check of 100 faults", y.check(), 100);
        c.dueFault(y, 99, 0, 3, 3, 4, 1);
        c.dueNoFault(y, 100);
    }

    /** What an earlier check told is not told any more, if the latest one found less. */
    private static void fewerThanBefore(Checks c) {
        SortPlans x = c.planOf("T1,0-9,0;T2,0-9,0;T3,0-9,0;B1,1,0,5;", 4);
        c.due("check", x.check(), 5);
        c.dueFault(x, 4, 0, 1, 3, 0, 0);
        c.due("read", Checks.readOf(x, "T7,0-9,0;B8,0,0,1;"), 2);
        c.due("check of the next plan", x.check(), 1);
        c.dueFault(x, 0, 0, 0, 7, 0, 0);
        c.dueNoFault(x, 1);
        c.dueNoFault(x, 4);
        c.due("read of nothing", x.read(), 0);
        c.due("check of the empty plan", x.check(), 0);
        c.dueNoFault(x, 0);
    }

    /** Only check finds faults: what comes after it leaves them as they are. */
    private static void foundLatest(Checks c) {
        SortPlans x = c.planOf("T1,0-9,0;T2,0-9,0;B1,0,0,5;B2,0,0,5;", 4);
        c.due("check", x.check(), 1);
        x.swap(5, 6);
        x.hold(1, true);
        c.dueFault(x, 0, 0, 0, 1, 2, 5);
        c.due("read", Checks.readOf(x, "T7,0-9,0;B8,0,0,1;"), 2);
        c.dueFault(x, 0, 0, 0, 1, 2, 5);
        c.due("check", x.check(), 1);
        c.dueFault(x, 0, 0, 0, 7, 0, 0);
    }
}
