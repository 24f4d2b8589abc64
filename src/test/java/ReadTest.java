/** Promise 3: a text is read whole and becomes the plan, or the place of its first trouble is answered. */
public final class ReadTest {
    public static void main(String[] args) {
        Checks c = new Checks();
        counts(c);
        wrongSigns(c);
        wrongNumbers(c);
        edgesOfNumbers(c);
        figures(c);
        sentencesTwice(c);
        firstTroubleOfSeveral(c);
        endsTooEarly(c);
        planStays(c);
        eightEditions(c);
        newPlanForgets(c);
        planBeforeTheLastIsForgotten(c);
        c.end();
    }

    private static void counts(Checks c) {
        c.dueRead("", 0);
        c.dueRead("T1,0-9,0;", 1);
        c.dueRead("B1,0,0,1;", 1);
        c.dueRead("B1,0,0,1+;", 1);
        c.dueRead("O1,1;", 1);
        c.dueRead("O1,2;T1,0-9,0;B1,0,0,1+;T1,0-9,0;B1,0,1,1;", 5);
    }

    private static void wrongSigns(Checks c) {
        c.dueRead(";", -1);
        c.dueRead("t1,0-9,0;", -1);
        c.dueRead("1", -1);
        c.dueRead(" O1,2;", -1);
        c.dueRead("O 1,2;", -2);
        c.dueRead("O1 ,2;", -3);
        c.dueRead("O1,2 ;", -5);
        c.dueRead("O1,2; ", -6);
        c.dueRead("O1,2;;", -6);
        c.dueRead("O1,2;O1", -8);
        c.dueRead("O,2;", -2);
        c.dueRead("O1,;", -4);
        c.dueRead("O1,-2;", -4);
        c.dueRead("O1,2+;", -5);
        c.dueRead("T1,0,9,0;", -5);
        c.dueRead("T1-0-9,0;", -3);
        c.dueRead("T1,0-9-0;", -7);
        c.dueRead("T1,0-9,0+;", -9);
        c.dueRead("T1,0-9;", -7);
        c.dueRead("B1,0,0,1++;", -10);
        c.dueRead("B1,0,0+,1;", -7);
        c.dueRead("B1,0,0,+;", -8);
        c.dueRead("B1,0,0,1,;", -9);
        c.dueRead("B1,0,0;", -7);
    }

    private static void wrongNumbers(Checks c) {
        c.dueRead("T0,0-9,0;", -2);
        c.dueRead("T41,0-9,0;", -2);
        c.dueRead("T1,5-4,0;", -6);
        c.dueRead("T1,9999-9998,0;", -9);
        c.dueRead("T1,0-9,10;", -8);
        c.dueRead("B0,0,0,1;", -2);
        c.dueRead("B41,0,0,1;", -2);
        c.dueRead("B1,4,0,1;", -4);
        c.dueRead("B1,0,3,1;", -6);
        c.dueRead("B1,0,0,0;", -8);
        c.dueRead("B1,0,0,61;", -8);
        c.dueRead("B1,0,0,61+;", -8);
        c.dueRead("O0,1;", -2);
        c.dueRead("O61,1;", -2);
        c.dueRead("O1,0;", -4);
        c.dueRead("O1,61;", -4);
    }

    private static void edgesOfNumbers(Checks c) {
        c.dueRead("T1,0-0,0;T40,9999-9999,9;T40,0-9999,9;", 3);
        c.dueRead("B1,0,0,1;B40,3,2,60;", 2);
        c.dueRead("O1,60;O60,1;", 2);
    }

    /** A number ends with its fourth figure at the latest: it is looked at before a fifth one behind it. */
    private static void figures(Checks c) {
        c.dueRead("T0001,0000-0000,0000;", 1);
        c.dueRead("B0040,0003,0002,0060+;", 1);
        c.dueRead("O0001,0002;", 1);
        c.dueRead("T00001,0-0,0;", -2);
        c.dueRead("O0001,00002;", -7);
        c.dueRead("T99999,0-0,0;", -2);
        c.dueRead("T1,00000-1,0;", -8);
        c.dueRead("T1,0-00001,0;", -10);
        c.dueRead("T1,0-10000,0;", -10);
        c.dueRead("B1,00000,0,1;", -8);
    }

    private static void sentencesTwice(Checks c) {
        c.dueRead("B1,0,0,5;B1,0,0,5;", -10);
        c.dueRead("B1,0,0,5;B1,0,0,6+;", -10);
        c.dueRead("B1,0,0,5;B01,0,0,6;", -10);
        c.dueRead("B1,0,0,5;B2,0,0,5;B1,1,0,5;B1,0,1,5;", 4);
        c.dueRead("B1,0,0,5;B2,0,0,5;B1,1,0,5;B1,0,1,5;B1,0,1,7;", -37);
        c.dueRead("O1,2;O1,2;", -6);
        c.dueRead("O1,2;O1,3;", -6);
        c.dueRead("O1,2;O2,1;O3,1;", 3);
        c.dueRead("O1,1;O001,2;", -6);
        c.dueRead("T1,0-9,0;T1,0-9,0;", 2);
    }

    /** The text is read from left to right, a sentence being known as one that there is only at its end. */
    private static void firstTroubleOfSeveral(Checks c) {
        c.dueRead("T41,x", -2);
        c.dueRead("T41;O1,2;?", -2);
        c.dueRead("O1?O61,1;", -3);
        c.dueRead("O1,2;O1,2;O61,1;", -6);
        c.dueRead("O1,2;O61,1;O1,2;", -7);
        c.dueRead("B1,0,0,5;B1,0,0,61;", -17);
        c.dueRead("B1,0,0,5;B1,0,0,5?", -18);
    }

    private static void endsTooEarly(Checks c) {
        String text = "T12,34-56,7;B12,3,2,10+;O12,34;";
        for (int length = 0; length < text.length(); length++) {
            String part = text.substring(0, length);
            boolean whole = part.isEmpty() || part.endsWith(";");
            int sentences = length == 0 ? 0 : length == 12 ? 1 : 2;
            // The code to is less than the code from while its second figure is missing.
            int want = whole ? sentences : part.equals("T12,34-5") ? -8 : -1 - length;
            c.dueRead(part, want);
        }
        c.dueRead(text, 3);
    }

    private static void planStays(Checks c) {
        SortPlans x = c.planOf("T1,0-9,0;B1,0,0,5;O5,6;", 3);
        x.hold(2, true);
        x.swap(5, 7);
        c.due("read of a bad text", Checks.readOf(x, "T2,0-9,0;B1,0,0,9;B2,0,0,8;O5,9;?"), -33);
        c.due("target", x.target(0, 0), 1);
        c.due("bin", x.bin(1, 0, 0), 7);
        c.due("bin of 2", x.bin(2, 0, 0), 0);
        c.due("overflow", x.overflow(5), 6);
        c.due("hold", x.hold(2, true), 0);
        c.due("compare(1)", x.compare(1), Checks.UNKNOWN);
        c.due("read of the text that is empty then", x.read(), 0);
        c.due("bin of the empty plan", x.bin(1, 0, 0), 0);
        c.due("compare(1)", x.compare(1), 0);
        SortPlans y = new SortPlans();
        c.due("read of a bad first text", Checks.readOf(y, "T1,0-9,0;T"), -11);
        c.due("target", y.target(0, 0), Checks.STATE);
    }

    private static void eightEditions(Checks c) {
        SortPlans x = new SortPlans();
        for (int n = 1; n <= 8; n++) {
            c.due("compare(7)", x.compare(7), n == 1 ? Checks.STATE : Checks.UNKNOWN);
            c.due("read " + n, Checks.readOf(x, "B1,0,0," + n + ";"), 1);
            c.due("read of a bad text", Checks.readOf(x, "?"), -1);
        }
        c.due("compare(7)", x.compare(7), 0);
        c.due("ninth read", Checks.readOf(x, "B1,0,0,9;"), -10);
        c.due("bin", x.bin(1, 0, 0), 8);
        c.due("read of nothing", x.read(), -1);
        c.due("read of a text with a trouble", Checks.readOf(x, "B1,0,0,x;"), -8);
        c.due("read of a short text", Checks.readOf(x, "B1,"), -4);
        c.due("compare(7)", x.compare(7), 0);
        c.due("compare(8)", x.compare(8), Checks.UNKNOWN);
    }

    private static void newPlanForgets(Checks c) {
        SortPlans x = c.planOf("T1,0-9,0;B1,0,0,5+;B1,0,1,5;O5,6;", 4);
        x.hold(1, true);
        x.swap(5, 7);
        c.due("read", Checks.readOf(x, "T2,0-9,0;T3,5-5,5;B1,0,0,5;B3,0,0,5;"), 4);
        c.due("target", x.target(0, 0), 2);
        c.due("bin", x.bin(1, 0, 0), 5);
        c.due("bin of the old plan", x.bin(1, 0, 1), 0);
        c.due("overflow", x.overflow(5), 5);
        c.due("hold", x.hold(1, false), 0);
        // Target 1 has no T any more; a third reading writes over the rows of the first one.
        c.due("check", x.check(), 1);
        c.dueFault(x, 0, 0, 0, 2, 0, 0);
        c.due("read", Checks.readOf(x, "T1,1-1,1;T3,1-1,1;B1,0,0,5;B3,0,0,5+;"), 4);
        c.due("check", x.check(), 1);
        c.dueFault(x, 0, 0, 0, 1, 3, 5);
        c.due("target of the first plan", x.target(0, 0), 0);
        c.due("overflow of the first plan", x.overflow(5), 5);
        c.due("hold of the first plan", x.hold(1, false), 0);
    }

    private static void planBeforeTheLastIsForgotten(Checks c) {
        SortPlans x = c.planOf("T1,0-9,0;T40,0-9,0;B2,0,0,5+;B40,3,2,5+;O60,1;", 5);
        x.hold(1, true);
        x.hold(40, true);
        c.due("read of nothing", x.read(), 0);
        c.due("read", Checks.readOf(x, "T2,0-9,0;T3,0-9,0;B2,0,0,5;B3,0,0,5+;"), 4);
        c.due("hold(1)", x.hold(1, false), 0);
        c.due("hold(40)", x.hold(40, false), 0);
        c.due("target", x.target(0, 0), 2);
        c.due("bin of 40", x.bin(40, 3, 2), 0);
        c.due("overflow(60)", x.overflow(60), 60);
        c.due("check", x.check(), 1);
        c.dueFault(x, 0, 0, 0, 2, 3, 5);
    }
}
