/**
 * Long runs of calls, made by a row of numbers that is the same each time: every answer is compared with that of
 * PlainSortPlans, and nothing may be thrown. The runs go on behind the 512th call, where the answers are free but
 * nothing may be thrown either.
 */
public final class RandomRunsTest {
    private static final int RUNS = 600;
    private static final int CALLS = 700;
    private static final int CALLS_ANSWERED = 512;
    private static final int[] EDGES = {Integer.MIN_VALUE, -1, 0, 1, 2, 3, 4, 7, 8, 9, 10, 39, 40, 41, 59, 60, 61, 99,
        100, 239, 240, 9998, 9999, 10000, Integer.MAX_VALUE};

    private final Checks checks = new Checks();
    private long state;
    private SortPlans x;
    private PlainSortPlans plain;
    private int run;
    private int calls;

    public static void main(String[] args) {
        RandomRunsTest test = new RandomRunsTest();
        for (int run = 1; run <= RUNS; run++) {
            test.oneRun(run);
        }
        test.checks.end();
    }

    private void oneRun(int number) {
        run = number;
        state = number;
        calls = 0;
        x = new SortPlans();
        plain = new PlainSortPlans();
        while (calls < CALLS) {
            oneStep();
        }
    }

    private int below(int bound) {
        state = state * 6364136223846793005L + 1442695040888963407L;
        return (int) ((state >>> 33) % bound);
    }

    private void oneStep() {
        int step = below(12);
        if (step == 0) {
            readSomeText();
        } else if (step == 1) {
            signOf(below(4) == 0 ? anyNumber(126) : 32 + below(95));
        } else {
            ask(step);
        }
    }

    private void ask(int step) {
        int a = anyNumber(step == 3 ? 9999 : 41);
        int b = anyNumber(step == 3 ? 9 : 4);
        int d = anyNumber(3);
        boolean on = below(2) == 0;
        switch (step) {
            case 2 -> due("read", x.read(), plain.read());
            case 3 -> due("target(" + a + "," + b + ")", x.target(a, b), plain.target(a, b));
            case 4 -> due("bin(" + a + "," + b + "," + d + ")", x.bin(a, b, d), plain.bin(a, b, d));
            case 5 -> due("hold(" + a + "," + on + ")", x.hold(a, on), plain.hold(a, on));
            case 6 -> due("compare(" + b + ")", x.compare(b), plain.compare(b));
            case 7 -> swapSome();
            case 8 -> due("overflow(" + a + ")", x.overflow(a), plain.overflow(a));
            case 9 -> printAll();
            case 10 -> due("fault(" + a + "," + b + ")", x.fault(a, b), plain.fault(a, b));
            default -> checkAll();
        }
    }

    private int anyNumber(int greatest) {
        return below(5) == 0 ? EDGES[below(EDGES.length)] : below(greatest + 1);
    }

    private void swapSome() {
        int a = anyNumber(7);
        int b = anyNumber(7);
        due("swap(" + a + "," + b + ")", x.swap(a, b), plain.swap(a, b));
    }

    private void printAll() {
        for (int i = 0; i < 20; i++) {
            due("print(" + i + ")", x.print(i), plain.print(i));
        }
        int i = anyNumber(240);
        due("print(" + i + ")", x.print(i), plain.print(i));
    }

    private void checkAll() {
        due("check", x.check(), plain.check());
        for (int i = 0; i < 12; i++) {
            int fault = i < 6 ? i : below(110);
            for (int what = 0; what < 5; what++) {
                due("fault(" + fault + "," + what + ")", x.fault(fault, what), plain.fault(fault, what));
            }
        }
    }

    private void due(String call, int got, int want) {
        calls++;
        if (calls <= CALLS_ANSWERED) {
            checks.due("run " + run + ", call " + calls + ": " + call, got, want);
        }
    }

    private void signOf(int c) {
        calls++;
        x.sign(c);
        plain.sign(c);
    }

    private void readSomeText() {
        StringBuilder text = new StringBuilder();
        int sentences = below(below(3) == 0 ? 60 : 12);
        int targets = 1 + below(below(2) == 0 ? 40 : 5);
        for (int n = 0; n < sentences; n++) {
            text.append(someSentence(targets));
        }
        if (below(3) == 0) {
            spoil(text);
        }
        for (int i = 0; i < text.length(); i++) {
            signOf(text.charAt(i));
        }
        due("read of " + text, x.read(), plain.read());
    }

    private String someSentence(int targets) {
        int target = 1 + below(targets);
        int from = below(100) * below(100);
        return switch (below(6)) {
            case 0 -> "O" + (1 + below(60)) + "," + (1 + below(60)) + ";";
            case 1, 2 -> "T" + target + "," + from + "-" + (from + below(190)) + "," + below(3) + ";";
            default -> "B" + target + "," + below(1 + below(4)) + "," + below(1 + below(3)) + ","
                + (1 + below(below(4) == 0 ? 60 : 6)) + (below(2) == 0 ? "+" : "") + ";";
        };
    }

    private void spoil(StringBuilder text) {
        String signs = "0123456789,;-+TBO x";
        int place = below(text.length() + 1);
        char sign = signs.charAt(below(signs.length()));
        switch (below(4)) {
            case 0 -> text.insert(place, sign);
            case 1 -> text.setLength(place);
            case 2 -> text.insert(place, "" + sign + sign + sign + sign);
            default -> text.replace(place, Math.min(place + 1, text.length()), "" + sign);
        }
    }
}
