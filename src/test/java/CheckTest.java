/** Promise 6: which faults a plan has, and in which order they are found. */
public final class CheckTest {
    public static void main(String[] args) {
        Checks c = new Checks();
        none(c);
        holes(c);
        passesUpToTheGreatest(c);
        eachNumberOfPasses(c);
        doubles(c);
        noDoubles(c);
        order(c);
        heldAsOthers(c);
        again(c);
        many(c);
        c.end();
    }

    private static void none(Checks c) {
        c.due("check without a plan", new SortPlans().check(), Checks.STATE);
        c.due("check of an empty plan", c.planOf("", 0).check(), 0);
        c.due("check without a B", c.planOf("T1,0-9,0;T2,0-9,0;", 2).check(), 0);
        c.due("check without a T", c.planOf("B1,0,0,5;B2,0,0,5;", 2).check(), 0);
        c.due("check of a good plan", c.planOf("T1,0-9,0;T2,0-9,0;B1,0,0,5;B2,0,0,6;", 4).check(), 0);
    }

    private static void holes(Checks c) {
        SortPlans x = c.planOf("T1,0-9,0;T3,0-9,0;T40,0-9,0;B3,0,1,60;", 4);
        c.due("check", x.check(), 2);
        c.dueFault(x, 0, 1, 0, 1, 0, 0);
        c.dueFault(x, 1, 1, 0, 40, 0, 0);
        c.dueNoFault(x, 2);
    }

    /** A pass without any B is one of the shift, if a greater one has a B; also the B of a target not used. */
    private static void passesUpToTheGreatest(Checks c) {
        SortPlans x = c.planOf("T2,0-9,0;B1,2,1,7;", 2);
        c.due("check", x.check(), 3);
        c.dueFault(x, 0, 1, 0, 2, 0, 0);
        c.dueFault(x, 1, 1, 1, 2, 0, 0);
        c.dueFault(x, 2, 1, 2, 2, 0, 0);
        c.due("check of a B of the last target", c.planOf("T2,0-9,0;B40,3,0,7;", 2).check(), 4);
        SortPlans y = c.planOf("T2,0-9,0;B2,3,2,7;B2,0,0,7;", 3);
        c.due("check", y.check(), 3);
        c.dueFault(y, 0, 2, 0, 2, 0, 0);
        c.dueFault(y, 1, 2, 1, 2, 0, 0);
        c.dueFault(y, 2, 2, 2, 2, 0, 0);
    }

    /** "0 up to the greatest that has a B in it", for each greatest in each shift; other shifts have no hole. */
    private static void eachNumberOfPasses(Checks c) {
        for (int shift = 0; shift < 3; shift++) {
            for (int greatest = 0; greatest < 4; greatest++) {
                SortPlans x = c.planOf("T1,0-9,0;T40,0-9,0;B40," + greatest + "," + shift + ",60;", 3);
                c.due("check of greatest pass " + greatest, x.check(), 2 * greatest + 1);
                for (int pass = 0; pass < greatest; pass++) {
                    c.dueFault(x, 2 * pass, shift, pass, 1, 0, 0);
                    c.dueFault(x, 2 * pass + 1, shift, pass, 40, 0, 0);
                }
                c.dueFault(x, 2 * greatest, shift, greatest, 1, 0, 0);
                c.dueNoFault(x, 2 * greatest + 1);
            }
        }
    }

    private static void doubles(Checks c) {
        String used = "T1,0-9,0;T40,0-9,0;";
        c.due("neither shares", c.planOf(used + "B1,0,0,5;B40,0,0,5;", 4).check(), 1);
        c.due("the first shares", c.planOf(used + "B1,0,0,5+;B40,0,0,5;", 4).check(), 1);
        c.due("the other shares", c.planOf(used + "B1,0,0,5;B40,0,0,5+;", 4).check(), 1);
        c.due("both share", c.planOf(used + "B1,0,0,5+;B40,0,0,5+;", 4).check(), 0);
        c.due("one is not used", c.planOf("T1,0-9,0;B1,0,0,5;B40,0,0,5;", 3).check(), 0);
        c.due("the lesser is not used", c.planOf("T40,0-9,0;B1,0,0,5;B40,0,0,5;", 3).check(), 0);
        SortPlans x = c.planOf(used + "B1,3,2,60;B40,3,2,60;B1,2,2,60;B40,2,2,59;"
            + "B1,1,2,1;B40,1,2,2;B1,0,2,1;B40,0,2,2;", 10);
        c.due("in the last pass and shift", x.check(), 1);
        c.dueFault(x, 0, 2, 3, 1, 40, 60);
    }

    /** "the same bin in one pass and shift": not in two of them. */
    private static void noDoubles(Checks c) {
        String used = "T1,0-9,0;T2,0-9,0;";
        c.due("in two passes", c.planOf(used + "B1,0,0,5;B2,0,0,6;B1,1,0,6;B2,1,0,5;", 6).check(), 0);
        c.due("in two shifts", c.planOf(used + "B1,0,0,5;B2,0,0,6;B1,0,1,6;B2,0,1,5;", 6).check(), 0);
        c.due("of one target", c.planOf("T1,0-9,0;B1,0,0,5;B1,1,0,5;B1,0,1,5;", 4).check(), 0);
        c.due("two holes are no double", c.planOf(used + "B3,0,0,5;", 3).check(), 2);
        SortPlans three = c.planOf(used + "T3,0-9,0;B1,0,0,5+;B2,0,0,5;B3,0,0,5+;", 6);
        c.due("one of three without a +", three.check(), 2);
        c.dueFault(three, 0, 0, 0, 1, 2, 5);
        c.dueFault(three, 1, 0, 0, 2, 3, 5);
    }

    private static void order(Checks c) {
        SortPlans x = c.planOf("T9,0-9,0;T1,0-9,0;T4,0-9,0;T3,0-9,0;T2,0-9,0;"
            + "B9,0,2,5;B4,0,2,5+;B2,0,2,6+;B1,0,2,6;"
            + "B4,1,0,8;B3,1,0,8;B2,1,0,8;B9,0,0,1;", 13);
        c.due("check", x.check(), 4 + 2 + 3 + 1 + 2);
        c.dueFault(x, 0, 0, 0, 1, 0, 0);
        c.dueFault(x, 1, 0, 0, 2, 0, 0);
        c.dueFault(x, 2, 0, 0, 3, 0, 0);
        c.dueFault(x, 3, 0, 0, 4, 0, 0);
        c.dueFault(x, 4, 0, 1, 1, 0, 0);
        c.dueFault(x, 5, 0, 1, 9, 0, 0);
        c.dueFault(x, 6, 0, 1, 2, 3, 8);
        c.dueFault(x, 7, 0, 1, 2, 4, 8);
        c.dueFault(x, 8, 0, 1, 3, 4, 8);
        c.dueFault(x, 9, 2, 0, 3, 0, 0);
        c.dueFault(x, 10, 2, 0, 1, 2, 6);
        c.dueFault(x, 11, 2, 0, 4, 9, 5);
        c.dueNoFault(x, 12);
    }

    private static void heldAsOthers(Checks c) {
        SortPlans x = c.planOf("T1,0-9,0;T2,0-9,0;T3,0-9,0;B1,0,0,5;B2,0,0,5;", 5);
        x.hold(1, true);
        x.hold(3, true);
        c.due("check", x.check(), 2);
        c.dueFault(x, 0, 0, 0, 3, 0, 0);
        c.dueFault(x, 1, 0, 0, 1, 2, 5);
    }

    private static void again(Checks c) {
        SortPlans x = c.planOf("T1,0-9,0;T2,0-9,0;B1,0,0,5;B2,0,0,5;", 4);
        c.due("check", x.check(), 1);
        c.due("check again", x.check(), 1);
        x.swap(5, 6);
        c.due("check after swap", x.check(), 1);
        c.dueFault(x, 0, 0, 0, 1, 2, 6);
        c.due("read of nothing", x.read(), 0);
        c.due("check of the empty plan", x.check(), 0);
        c.dueNoFault(x, 0);
    }

    /** All are counted, 100 are told. */
    private static void many(Checks c) {
        StringBuilder text = new StringBuilder();
        for (int target = 1; target <= 25; target++) {
            text.append("T" + target + ",0-0,0;");
        }
        SortPlans x = c.planOf(text + "B1,3,0,1;", 26);
        c.due("check of 4 passes with 25 targets", x.check(), 99);
        c.dueFault(x, 98, 0, 3, 25, 0, 0);
        c.dueNoFault(x, 99);
        SortPlans y = c.planOf(text + "B26,3,0,1;", 26);
        c.due("check of 100 faults", y.check(), 100);
        c.dueFault(y, 99, 0, 3, 25, 0, 0);
        c.dueNoFault(y, 100);
        SortPlans z = c.planOf(text + "B26,3,0,1;B26,0,1,1;", 27);
        c.due("check of 125 faults", z.check(), 125);
        c.dueFault(z, 99, 0, 3, 25, 0, 0);
        c.dueNoFault(z, 100);
        c.dueNoFault(z, 124);
        SortPlans most = c.planOf(text + "B1,3,0,1;B1,3,1,1;B1,3,2,1;", 28);
        c.due("check of all shifts", most.check(), 12 * 25 - 3);
    }
}
