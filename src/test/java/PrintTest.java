/** Promise 12: the sheet of the plan, sign by sign. */
public final class PrintTest {
    public static void main(String[] args) {
        Checks c = new Checks();
        ordinary(c);
        asThePlanIsNow(c);
        noSuchSign(c);
        lastSign(c);
        longest(c);
        c.end();
    }

    private static void ordinary(Checks c) {
        c.dueText("sheet of nothing", Checks.sheetOf(c.planOf("", 0)), "");
        c.dueText("sheet without a B", Checks.sheetOf(c.planOf("T1,0-9,0;O1,2;", 2)), "");
        c.dueText("sheet of others", Checks.sheetOf(c.planOf("B1,1,0,5;B1,0,1,6;B40,3,2,7;", 3)), "");
        // A target stands in the sheet with or without a T, and a + leaves no sign there.
        SortPlans x = c.planOf("T3,0-9,0;B40,0,0,5;B3,0,0,60+;B10,0,0,5+;B9,0,0,10;B1,0,0,60;B2,0,0,1;B2,1,0,5;", 8);
        c.dueText("sheet", Checks.sheetOf(x), "1:2;5:10,40;10:9;60:1,3;");
    }

    private static void asThePlanIsNow(Checks c) {
        SortPlans x = c.planOf("B1,0,0,5;B2,0,0,20;", 2);
        x.hold(1, true);
        c.dueText("sheet with a held target", Checks.sheetOf(x), "5:1;20:2;");
        x.swap(20, 3);
        c.dueText("sheet after swap", Checks.sheetOf(x), "3:2;5:1;");
        Checks.readOf(x, "B1,0,0,99;");
        c.dueText("sheet after a bad text", Checks.sheetOf(x), "3:2;5:1;");
        Checks.readOf(x, "B7,0,0,8;");
        c.dueText("sheet of the next plan", Checks.sheetOf(x), "8:7;");
        x.read();
        c.dueText("sheet of the empty plan", Checks.sheetOf(x), "");
    }

    private static void noSuchSign(Checks c) {
        SortPlans x = c.planOf("B1,0,0,5;", 1);
        SortPlans without = new SortPlans();
        for (int i : new int[] {-1, 4, 5, 239, 240, 600, Integer.MIN_VALUE, Integer.MAX_VALUE}) {
            c.due("print(" + i + ")", x.print(i), 0);
            c.due("print(" + i + ") without a plan", without.print(i), 0);
        }
        c.due("print(0)", x.print(0), '5');
        c.due("print(1)", x.print(1), ':');
        c.due("print(2)", x.print(2), '1');
        c.due("print(3)", x.print(3), ';');
        c.due("print(0) without a plan", without.print(0), 0);
    }

    /** "0 when it has no such sign": the last one there is, and the first that is not, of sheets of all lengths. */
    private static void lastSign(Checks c) {
        StringBuilder text = new StringBuilder();
        int length = 0;
        for (int target = 1; target <= 20; target++) {
            text.append("B" + target + ",0,0," + (61 - target) + ";");
            length += target < 10 ? 5 : 6;
            SortPlans x = c.planOf(text.toString(), target);
            c.due("sign before the first of " + length, x.print(-1), 0);
            c.due("first sign of " + length, x.print(0), '0' + (61 - target) / 10);
            c.due("last sign of " + length, x.print(length - 1), ';');
            c.due("sign behind the last of " + length, x.print(length), 0);
        }
    }

    private static void longest(Checks c) {
        StringBuilder text = new StringBuilder();
        StringBuilder sheet = new StringBuilder();
        for (int target = 1; target <= 40; target++) {
            text.append("B" + target + ",0,0," + (20 + target) + ";");
            sheet.append((20 + target) + ":" + target + ";");
        }
        // So long a text leaves an object some eighty calls of its 512.
        for (int from = 0; from < sheet.length(); from += 60) {
            int to = Math.min(from + 60, sheet.length());
            c.dueText("the longest sheet from " + from,
                Checks.signsOfSheet(c.planOf(text.toString(), 40), from, from + 60), sheet.substring(from, to));
        }
        c.due("the longest sheet's end", c.planOf(text.toString(), 40).print(sheet.length()), 0);
        StringBuilder one = new StringBuilder();
        for (int target = 40; target >= 1; target--) {
            one.append("B" + target + ",0,0,6;");
        }
        String first = "6:1,2,3,4,5,6,7,8,9,10,11,12,13,14,15,16,17,18,19,20,";
        String rest = "21,22,23,24,25,26,27,28,29,30,31,32,33,34,35,36,37,38,39,40;";
        c.dueText("one bin of all", Checks.signsOfSheet(c.planOf(one.toString(), 40), 0, first.length()), first);
        c.dueText("one bin of all, the rest", Checks.signsOfSheet(c.planOf(one.toString(), 40), first.length(), 1000),
            rest);
    }
}
