import java.util.ArrayList;
import java.util.List;
import java.util.function.Supplier;

/**
 * What the tests of the project share: it counts and prints the answers that are not due. An object answers for 512
 * calls alone, so a test that asks more asks several objects that were made alike.
 */
final class Checks {
    static final int UNKNOWN = -101, OUTSIDE = -102, STATE = -103;
    private int wrong;

    void due(String call, long got, long want) {
        if (got != want) {
            wrong++;
            System.out.println(call + " answered " + got + ", due is " + want);
        }
    }

    void dueText(String call, String got, String want) {
        if (!got.equals(want)) {
            wrong++;
            System.out.println(call + " answered \"" + got + "\", due is \"" + want + "\"");
        }
    }

    /** Reads a text on a new object, where it must give so many sentences. */
    SortPlans planOf(String text, int sentences) {
        SortPlans x = new SortPlans();
        due("read() of " + text, readOf(x, text), sentences);
        return x;
    }

    /** What read() answers to a text on a new object. */
    void dueRead(String text, int want) {
        due("read() of " + text, readOf(new SortPlans(), text), want);
    }

    void dueFault(SortPlans x, int i, int shift, int pass, int target, int other, int bin) {
        int[] parts = {shift, pass, target, other, bin};
        for (int what = 0; what < parts.length; what++) {
            due("fault(" + i + ", " + what + ")", x.fault(i, what), parts[what]);
        }
    }

    void dueNoFault(SortPlans x, int i) {
        for (int what = 0; what < 5; what++) {
            due("fault(" + i + ", " + what + ")", x.fault(i, what), -1);
        }
    }

    static void signs(SortPlans x, String text) {
        for (int i = 0; i < text.length(); i++) {
            x.sign(text.charAt(i));
        }
    }

    static int readOf(SortPlans x, String text) {
        signs(x, text);
        return x.read();
    }

    static String sheetOf(SortPlans x) {
        return signsOfSheet(x, 0, 1000);
    }

    /** The sheet's signs from one place to the one before another, or to its end. */
    static String signsOfSheet(SortPlans x, int from, int to) {
        StringBuilder sheet = new StringBuilder();
        for (int i = from; i < to; i++) {
            int sign = x.print(i);
            if (sign == 0) {
                break;
            }
            sheet.append((char) sign);
        }
        return sheet.toString();
    }

    /** Two ways to an object must come to the same state, as far as any call can tell. */
    void dueSameState(String way, Supplier<SortPlans> got, Supplier<SortPlans> want) {
        List<String> gotState = stateOf(got);
        List<String> wantState = stateOf(want);
        for (int part = 0; part < wantState.size(); part++) {
            dueText("state after " + way, gotState.get(part), wantState.get(part));
        }
    }

    private static List<String> stateOf(Supplier<SortPlans> made) {
        List<String> parts = new ArrayList<>();
        for (int shift = 0; shift < 3; shift++) {
            parts.add(binsOf(made.get(), shift));
        }
        parts.add(targetsOf(made.get()));
        parts.add(waysOf(made.get()));
        parts.add("sheet " + sheetOf(made.get()));
        parts.add(faultsOf(made.get()));
        parts.add("check " + made.get().check());
        SortPlans checked = made.get();
        checked.check();
        parts.add("found by a check now: " + faultsOf(checked));
        parts.add(heldOf(made.get()));
        parts.add(textOf(made.get()));
        return parts;
    }

    private static String binsOf(SortPlans x, int shift) {
        StringBuilder s = new StringBuilder("bins of shift " + shift);
        for (int n = 0; n < 160; n++) {
            s.append(' ').append(x.bin(n / 4 + 1, n % 4, shift));
        }
        return s.toString();
    }

    private static String targetsOf(SortPlans x) {
        StringBuilder s = new StringBuilder("targets");
        for (int kind = 0; kind < 10; kind++) {
            for (int code : new int[] {0, 1, 5, 9, 10, 50, 99, 100, 5000, 9998, 9999}) {
                s.append(' ').append(x.target(code, kind));
            }
        }
        return s.toString();
    }

    private static String waysOf(SortPlans x) {
        StringBuilder s = new StringBuilder("ways and editions");
        for (int bin = 1; bin <= 60; bin++) {
            s.append(' ').append(x.overflow(bin));
        }
        for (int edition = -1; edition <= 8; edition++) {
            s.append(' ').append(x.compare(edition));
        }
        return s.toString();
    }

    private static String faultsOf(SortPlans x) {
        StringBuilder s = new StringBuilder("faults");
        for (int n = 0; n < 100; n++) {
            s.append(' ').append(x.fault(n / 5, n % 5));
        }
        return s.toString();
    }

    private static String heldOf(SortPlans x) {
        StringBuilder s = new StringBuilder("held");
        for (int target = 1; target <= 40; target++) {
            s.append(' ').append(x.hold(target, true));
        }
        return s.toString();
    }

    /** What there is of a text: a sign that cannot stand anywhere tells its length, if it is good so far. */
    private static String textOf(SortPlans x) {
        x.sign('~');
        return "text " + x.read() + ", and then " + x.read();
    }

    void end() {
        if (wrong != 0) {
            System.out.println(wrong + " answers are not as due");
            System.exit(1);
        }
    }
}
