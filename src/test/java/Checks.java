/** What the tests of the project share: it counts and prints the answers that are not due. */
final class Checks {
    static final int UNKNOWN = -101, OUTSIDE = -102, STATE = -103;
    private int wrong;

    void due(String call, long got, long want) {
        if (got != want) {
            wrong++;
            System.out.println(call + " answered " + got + ", due is " + want);
        }
    }

    void dueText(String call, String got, String want) {
        if (!got.equals(want)) {
            wrong++;
            System.out.println(call + " answered \"" + got + "\", due is \"" + want + "\"");
        }
    }

    /** Reads a text on a new object, where it must give so many sentences. */
    SortPlans planOf(String text, int sentences) {
        SortPlans x = new SortPlans();
        due("read() of " + text, readOf(x, text), sentences);
        return x;
    }

    /** What read() answers to a text on a new object. */
    void dueRead(String text, int want) {
        due("read() of " + text, readOf(new SortPlans(), text), want);
    }

    void dueFault(SortPlans x, int i, int shift, int pass, int target, int other, int bin) {
        int[] parts = {shift, pass, target, other, bin};
        for (int what = 0; what < parts.length; what++) {
            due("fault(" + i + ", " + what + ")", x.fault(i, what), parts[what]);
        }
    }

    void dueNoFault(SortPlans x, int i) {
        for (int what = 0; what < 5; what++) {
            due("fault(" + i + ", " + what + ")", x.fault(i, what), -1);
        }
    }

    static void signs(SortPlans x, String text) {
        for (int i = 0; i < text.length(); i++) {
            x.sign(text.charAt(i));
        }
    }

    static int readOf(SortPlans x, String text) {
        signs(x, text);
        return x.read();
    }

    static String sheetOf(SortPlans x) {
        StringBuilder sheet = new StringBuilder();
        for (int i = 0; i < 1000 && x.print(i) != 0; i++) {
            sheet.append((char) x.print(i));
        }
        return sheet.toString();
    }

    void end() {
        if (wrong != 0) {
            System.out.println(wrong + " answers are not as due");
            System.exit(1);
        }
    }
}
