/** Promise 1: a new object has no text and no plan; objects have nothing in common. */
public final class NewObjectTest {
    public static void main(String[] args) {
        Checks c = new Checks();
        noPlan(c);
        noText(c);
        noFaults(c);
        apart(c);
        c.end();
    }

    private static void noPlan(Checks c) {
        SortPlans x = new SortPlans();
        c.due("target", x.target(0, 0), Checks.STATE);
        c.due("bin", x.bin(1, 0, 0), Checks.STATE);
        c.due("check", x.check(), Checks.STATE);
        c.due("hold on", x.hold(1, true), Checks.STATE);
        c.due("hold off", x.hold(1, false), Checks.STATE);
        c.due("compare", x.compare(0), Checks.STATE);
        c.due("swap", x.swap(1, 2), Checks.STATE);
        c.due("overflow", x.overflow(1), Checks.STATE);
        c.due("print", x.print(0), 0);
    }

    private static void noText(Checks c) {
        c.due("read of nothing", new SortPlans().read(), 0);
    }

    private static void noFaults(Checks c) {
        c.dueNoFault(new SortPlans(), 0);
    }

    private static void apart(Checks c) {
        SortPlans x = c.planOf("T1,0-9,0;B1,0,0,5;", 2);
        SortPlans y = new SortPlans();
        c.due("bin of the other object", y.bin(1, 0, 0), Checks.STATE);
        Checks.signs(x, "T");
        c.due("read of the other object", y.read(), 0);
        c.due("bin of the other object", y.bin(1, 0, 0), 0);
        c.due("bin of the first object", x.bin(1, 0, 0), 5);
    }
}
