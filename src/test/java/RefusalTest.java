import java.util.ArrayList;
import java.util.List;
import java.util.function.Supplier;
import java.util.function.ToIntFunction;

/** The refusals: where each begins, which one is told of several, and that a refused call changes nothing. */
public final class RefusalTest {
    private record Call(String name, ToIntFunction<SortPlans> made) { }

    private static final boolean[] PLAN_OR_NOT = {true, false};

    public static void main(String[] args) {
        Checks c = new Checks();
        for (boolean plan : PLAN_OR_NOT) {
            target(c, plan);
            bin(c, plan);
            check(c, plan);
            hold(c, plan);
            compare(c, plan);
            swap(c, plan);
            overflow(c, plan);
            neverRefused(c, plan);
        }
        refusedChangesNothing(c);
        c.end();
    }

    /** The first that is not within, the last that is, at both ends; and the ends of all numbers. */
    private static int[] edges(int least, int greatest) {
        return new int[] {least - 1, least, greatest, greatest + 1, -least - 1, Integer.MIN_VALUE, Integer.MAX_VALUE};
    }

    private static boolean within(int number, int least, int greatest) {
        return number >= least && number <= greatest;
    }

    private static SortPlans objectWith(boolean plan) {
        SortPlans x = new SortPlans();
        if (plan) {
            Checks.readOf(x, "T1,0-9999,9;T40,0-0,0;B40,3,2,60;B1,0,0,1;");
        }
        return x;
    }

    /** The refusal that is due, in the order of the document, or 0. */
    private static int refusal(boolean unknown, boolean outside, boolean state) {
        return unknown ? Checks.UNKNOWN : outside ? Checks.OUTSIDE : state ? Checks.STATE : 0;
    }

    /** No answer that is no refusal is as small as one. */
    private static void dueRefusal(Checks c, String call, int got, int want) {
        c.due(call, got <= Checks.UNKNOWN ? got : 0, want);
    }

    private static void target(Checks c, boolean plan) {
        SortPlans x = objectWith(plan);
        for (int code : edges(0, 9999)) {
            for (int kind : edges(0, 9)) {
                boolean outside = !within(code, 0, 9999) || !within(kind, 0, 9);
                dueRefusal(c, "target(" + code + ", " + kind + "), a plan: " + plan, x.target(code, kind),
                    refusal(false, outside, !plan));
            }
        }
    }

    private static void bin(Checks c, boolean plan) {
        SortPlans x = objectWith(plan);
        for (int target : edges(1, 40)) {
            for (int pass : edges(0, 3)) {
                for (int shift : edges(0, 2)) {
                    boolean outside = !within(pass, 0, 3) || !within(shift, 0, 2);
                    dueRefusal(c, "bin(" + target + ", " + pass + ", " + shift + "), a plan: " + plan,
                        x.bin(target, pass, shift), refusal(!within(target, 1, 40), outside, !plan));
                }
            }
        }
    }

    private static void check(Checks c, boolean plan) {
        dueRefusal(c, "check(), a plan: " + plan, objectWith(plan).check(), refusal(false, false, !plan));
    }

    private static void hold(Checks c, boolean plan) {
        SortPlans x = objectWith(plan);
        for (int target : edges(1, 40)) {
            for (boolean on : new boolean[] {true, false}) {
                dueRefusal(c, "hold(" + target + ", " + on + "), a plan: " + plan, x.hold(target, on),
                    refusal(!within(target, 1, 40), false, !plan));
            }
        }
    }

    /** "without a plan editions 0 .. 7 are none of these": not UNKNOWN, but STATE. */
    private static void compare(Checks c, boolean plan) {
        SortPlans x = objectWith(plan);
        for (int edition = -2; edition <= 9; edition++) {
            boolean unknown = !within(edition, 0, plan ? 0 : 7);
            dueRefusal(c, "compare(" + edition + "), a plan: " + plan, x.compare(edition),
                refusal(unknown, false, !plan));
        }
        for (int edition : edges(0, 7)) {
            boolean unknown = !within(edition, 0, plan ? 0 : 7);
            dueRefusal(c, "compare(" + edition + "), a plan: " + plan, x.compare(edition),
                refusal(unknown, false, !plan));
        }
    }

    private static void swap(Checks c, boolean plan) {
        SortPlans x = objectWith(plan);
        for (int a : edges(1, 60)) {
            for (int b : edges(1, 60)) {
                boolean unknown = !within(a, 1, 60) || !within(b, 1, 60);
                dueRefusal(c, "swap(" + a + ", " + b + "), a plan: " + plan, x.swap(a, b),
                    refusal(unknown, false, !plan));
            }
        }
    }

    private static void overflow(Checks c, boolean plan) {
        SortPlans x = objectWith(plan);
        for (int bin : edges(1, 60)) {
            dueRefusal(c, "overflow(" + bin + "), a plan: " + plan, x.overflow(bin),
                refusal(!within(bin, 1, 60), false, !plan));
        }
    }

    /** fault and print have answers of their own for what there is not. */
    private static void neverRefused(Checks c, boolean plan) {
        SortPlans x = objectWith(plan);
        for (int i : edges(0, 99)) {
            for (int what : edges(0, 4)) {
                c.due("fault(" + i + ", " + what + ") before a check, a plan: " + plan, x.fault(i, what), -1);
            }
        }
        for (int i : edges(5, 599)) {
            c.due("print(" + i + "), a plan: " + plan, x.print(i), 0);
        }
        c.due("print(0), a plan: " + plan, x.print(0), plan ? '1' : 0);
        c.due("print(3), a plan: " + plan, x.print(3), plan ? ';' : 0);
        c.due("print(4), a plan: " + plan, x.print(4), 0);
    }

    /** "A call that is refused changes nothing.": for each state, one refused call at a time. */
    private static void refusedChangesNothing(Checks c) {
        for (Call call : refusedAlways()) {
            dueNothingChanged(c, call, "nothing", SortPlans::new);
            dueNothingChanged(c, call, "a text begun", RefusalTest::withTextAlone);
            dueNothingChanged(c, call, "a plan and a text begun", RefusalTest::withAllThereIs);
            dueNothingChanged(c, call, "eight editions", RefusalTest::withEightEditions);
        }
        for (Call call : refusedWithoutPlan()) {
            dueNothingChanged(c, call, "nothing", SortPlans::new);
            dueNothingChanged(c, call, "a text begun", RefusalTest::withTextAlone);
            dueNothingComesOfItLater(c, call);
        }
    }

    private static List<Call> refusedAlways() {
        List<Call> calls = new ArrayList<>();
        for (int none : new int[] {-1, 10000}) {
            calls.add(new Call("target(" + none + ", 0)", x -> x.target(none, 0)));
            calls.add(new Call("target(0, " + none + ")", x -> x.target(0, none)));
            calls.add(new Call("bin(1, " + none + ", 0)", x -> x.bin(1, none, 0)));
            calls.add(new Call("bin(1, 0, " + none + ")", x -> x.bin(1, 0, none)));
        }
        for (int none : new int[] {0, 41, -1, Integer.MIN_VALUE, Integer.MAX_VALUE}) {
            calls.add(new Call("bin(" + none + ", 0, 0)", x -> x.bin(none, 0, 0)));
            calls.add(new Call("hold(" + none + ", true)", x -> x.hold(none, true)));
            calls.add(new Call("hold(" + none + ", false)", x -> x.hold(none, false)));
        }
        for (int none : new int[] {0, 61, -1, Integer.MIN_VALUE, Integer.MAX_VALUE}) {
            calls.add(new Call("swap(" + none + ", 5)", x -> x.swap(none, 5)));
            calls.add(new Call("swap(5, " + none + ")", x -> x.swap(5, none)));
            calls.add(new Call("swap(" + none + ", " + none + ")", x -> x.swap(none, none)));
            calls.add(new Call("overflow(" + none + ")", x -> x.overflow(none)));
        }
        for (int none : new int[] {-1, 8, Integer.MIN_VALUE, Integer.MAX_VALUE}) {
            calls.add(new Call("compare(" + none + ")", x -> x.compare(none)));
        }
        return calls;
    }

    private static List<Call> refusedWithoutPlan() {
        List<Call> calls = new ArrayList<>();
        calls.add(new Call("target(0, 0)", x -> x.target(0, 0)));
        calls.add(new Call("bin(1, 0, 0)", x -> x.bin(1, 0, 0)));
        calls.add(new Call("check()", x -> x.check()));
        calls.add(new Call("hold(1, true)", x -> x.hold(1, true)));
        calls.add(new Call("hold(2, true)", x -> x.hold(2, true)));
        calls.add(new Call("hold(1, false)", x -> x.hold(1, false)));
        calls.add(new Call("compare(0)", x -> x.compare(0)));
        calls.add(new Call("compare(7)", x -> x.compare(7)));
        calls.add(new Call("swap(5, 6)", x -> x.swap(5, 6)));
        calls.add(new Call("overflow(5)", x -> x.overflow(5)));
        return calls;
    }

    private static SortPlans withTextAlone() {
        SortPlans x = new SortPlans();
        Checks.signs(x, "T1,0-9,0;B1,0,0,5;B2,0,0,6;");
        return x;
    }

    /** Targets held and bins exchanged, faults that are not those of the plan now, and a text begun. */
    private static SortPlans withAllThereIs() {
        SortPlans x = new SortPlans();
        Checks.readOf(x, "T1,0-9,0;T2,0-9,1;T40,0-9,0;B1,0,0,5;B2,0,0,5+;B40,3,2,60;O5,6;O6,5;O60,1;");
        x.hold(2, true);
        x.hold(40, true);
        x.check();
        x.swap(5, 7);
        Checks.signs(x, "O1,2;O2,3;");
        return x;
    }

    private static SortPlans withEightEditions() {
        SortPlans x = new SortPlans();
        for (int n = 1; n <= 8; n++) {
            Checks.readOf(x, "T1,0-9,0;B1,0,0," + n + ";");
        }
        x.hold(1, true);
        x.swap(8, 9);
        x.check();
        Checks.signs(x, "O1,2;");
        return x;
    }

    private static void dueNothingChanged(Checks c, Call call, String state, Supplier<SortPlans> made) {
        dueRefused(c, call, call.made.applyAsInt(made.get()));
        c.dueSameState(call.name + " with " + state, () -> {
            SortPlans x = made.get();
            call.made.applyAsInt(x);
            return x;
        }, made);
    }

    /** What is refused without a plan is not kept for the plan that comes. */
    private static void dueNothingComesOfItLater(Checks c, Call call) {
        c.dueSameState(call.name + " before the plan", () -> {
            SortPlans x = withTextAlone();
            call.made.applyAsInt(x);
            x.read();
            return x;
        }, () -> {
            SortPlans x = withTextAlone();
            x.read();
            return x;
        });
    }

    private static void dueRefused(Checks c, Call call, int answer) {
        boolean refused = answer == Checks.UNKNOWN || answer == Checks.OUTSIDE || answer == Checks.STATE;
        c.due(call.name + " is refused", refused ? 1 : 0, 1);
    }
}
