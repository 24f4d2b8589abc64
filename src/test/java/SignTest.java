/** Promise 2: signs go behind the text; those that are no signs, and those behind the 600th, do not. */
public final class SignTest {
    private static final int[] NO_SIGNS = {
        31, 127, 0, -1, 10, 128, 255, 256, 'T' + 256, 'T' - 256, 'T' + 65536, 'T' - 65536,
        Integer.MIN_VALUE, Integer.MAX_VALUE
    };

    public static void main(String[] args) {
        Checks c = new Checks();
        noSigns(c);
        allSigns(c);
        full(c);
        afterReading(c);
        c.end();
    }

    private static void noSigns(Checks c) {
        SortPlans x = new SortPlans();
        for (int sign : NO_SIGNS) {
            x.sign(sign);
        }
        c.due("read of what is no text", x.read(), 0);
        Checks.signs(x, "O1");
        for (int sign : NO_SIGNS) {
            x.sign(sign);
        }
        Checks.signs(x, ",2;");
        c.due("read with no signs between", x.read(), 1);
        c.due("overflow", x.overflow(1), 2);
    }

    /** Every sign counts in the text, so that each alone moves the place of the trouble. */
    private static void allSigns(Checks c) {
        for (int sign = 32; sign <= 126; sign++) {
            SortPlans x = new SortPlans();
            x.sign(sign);
            boolean begins = sign == 'T' || sign == 'B' || sign == 'O';
            c.due("read of sign " + sign, x.read(), begins ? -2 : -1);
        }
    }

    /** These runs are longer than an object's 512 calls; no shorter one comes to the limit. */
    private static void full(Checks c) {
        String most = "T01,0-0,0;".repeat(60);
        SortPlans x = new SortPlans();
        c.due("read of 600 signs", Checks.readOf(x, most), 60);
        c.due("read of 601 signs, the last of no use", Checks.readOf(x, most + "?"), 60);
        c.due("read of 700 signs", Checks.readOf(x, most + "T02,0-0,1;".repeat(10)), 60);
        c.due("target behind the 600th sign", x.target(0, 1), 0);
        c.due("read of 600 signs without an end", Checks.readOf(x, " " + most), -1);
        c.due("read of a text cut at 600", Checks.readOf(x, "O1,2;" + most), -601);
        c.due("read of the most ranges", Checks.readOf(x, "T1,0-0,0;".repeat(65) + "T2,0-0,1;"), 66);
        c.due("target of the 66th range", x.target(0, 1), 2);
    }

    private static void afterReading(Checks c) {
        SortPlans x = c.planOf("O1,2;", 1);
        c.due("read of the next text", Checks.readOf(x, "O2,3;O3,4;"), 2);
        c.due("overflow of the text before", x.overflow(1), 1);
        c.due("overflow of the text", x.overflow(2), 4);
    }
}
