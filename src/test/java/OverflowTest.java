/** Promise 11: where what is too much for a bin comes to an end. */
public final class OverflowTest {
    public static void main(String[] args) {
        Checks c = new Checks();
        ordinary(c);
        rings(c);
        ringsOfEachLength(c);
        backToItselfOrToAnother(c);
        longest(c);
        refusals(c);
        c.end();
    }

    private static void ordinary(Checks c) {
        SortPlans x = c.planOf("O5,6;O6,7;O9,6;O60,1;", 4);
        c.due("overflow(5)", x.overflow(5), 7);
        c.due("overflow(6)", x.overflow(6), 7);
        c.due("overflow(7)", x.overflow(7), 7);
        c.due("overflow(9)", x.overflow(9), 7);
        c.due("overflow(60)", x.overflow(60), 1);
        c.due("overflow(1)", x.overflow(1), 1);
    }

    private static void rings(Checks c) {
        SortPlans x = c.planOf("O1,1;O2,3;O3,2;O4,3;O5,6;", 5);
        c.due("itself at once", x.overflow(1), -1);
        c.due("in a ring", x.overflow(2), -1);
        c.due("in a ring", x.overflow(3), -1);
        c.due("into a ring", x.overflow(4), -1);
        c.due("no ring", x.overflow(5), 6);
    }

    /** "-1 when that comes to a bin again": a ring of each length, and the same way without its last step. */
    private static void ringsOfEachLength(Checks c) {
        for (int length = 1; length <= 60; length++) {
            String chain = chain(length - 1);
            SortPlans ring = c.planOf(chain + "O" + length + ",1;", length);
            SortPlans open = c.planOf(chain, length - 1);
            for (int bin : new int[] {1, (length + 1) / 2, length}) {
                c.due("overflow(" + bin + ") in a ring of " + length, ring.overflow(bin), -1);
                c.due("overflow(" + bin + ") of " + length + " in a row", open.overflow(bin), length);
            }
            if (length < 60) {
                c.due("beside the ring of " + length, ring.overflow(60), 60);
            }
        }
    }

    /** Into a ring in which the first bin does not stand: "a bin again" is any of them. */
    private static void backToItselfOrToAnother(Checks c) {
        String chain = chain(59);
        for (int back = 1; back <= 60; back++) {
            SortPlans x = c.planOf(chain + "O60," + back + ";", 60);
            c.due("overflow(1), the last one going on into " + back, x.overflow(1), -1);
            c.due("overflow(60), the last one going on into " + back, x.overflow(60), -1);
        }
    }

    private static void longest(Checks c) {
        String chain = chain(59);
        SortPlans x = c.planOf(chain, 59);
        c.due("59 times on", x.overflow(1), 60);
        c.due("58 times on", x.overflow(2), 60);
        c.due("once on", x.overflow(59), 60);
        c.due("not on", x.overflow(60), 60);
        SortPlans ring = c.planOf(chain + "O60,1;", 60);
        c.due("in the longest ring", ring.overflow(1), -1);
        c.due("in the longest ring", ring.overflow(60), -1);
        SortPlans end = c.planOf(chain + "O60,60;", 60);
        c.due("into the last one again", end.overflow(1), -1);
    }

    private static String chain(int links) {
        StringBuilder text = new StringBuilder();
        for (int bin = 1; bin <= links; bin++) {
            text.append("O" + bin + "," + (bin + 1) + ";");
        }
        return text.toString();
    }

    private static void refusals(Checks c) {
        SortPlans without = new SortPlans();
        SortPlans with = c.planOf("O1,2;", 1);
        for (int bin : new int[] {0, 61, -1, Integer.MIN_VALUE, Integer.MAX_VALUE}) {
            c.due("overflow(" + bin + ") without a plan", without.overflow(bin), Checks.UNKNOWN);
            c.due("overflow(" + bin + ")", with.overflow(bin), Checks.UNKNOWN);
        }
        c.due("overflow(1) without a plan", without.overflow(1), Checks.STATE);
        c.due("overflow(60) without a plan", without.overflow(60), Checks.STATE);
    }
}
