/** The editions: eight at most; the plan is the latest one, and what is no edition leaves it as it was. */
public final class EditionsTest {
    /** Texts that read refuses, with what it answers. */
    private static final Object[][] BAD = {{"?", -1}, {"T", -2}, {"T1,5-4,0;", -6}, {"O1,2", -5},
        {"B1,0,0,9;B1,0,0,9;", -10}, {"O5,9;O5,9;", -6}, {"T2,0-9999,0;B1,0,0,9;O5,9;O61,1;", -28}};

    public static void main(String[] args) {
        Checks c = new Checks();
        numberedFromNought(c);
        eightAtMost(c);
        ninthAnswersTheLength(c);
        ninthLeavesThePlan(c);
        badTextIsNoEdition(c);
        badTextLeavesThePlan(c);
        textIsEmptyThen(c);
        latestOneAlone(c);
        c.end();
    }

    /** An object with so many editions, each with another bin for target 1. */
    private static SortPlans withEditions(int count) {
        SortPlans x = new SortPlans();
        for (int n = 1; n <= count; n++) {
            Checks.readOf(x, "B1,0,0," + n + ";");
        }
        return x;
    }

    /** "editions are numbered 0, 1, .." */
    private static void numberedFromNought(Checks c) {
        for (int count = 1; count <= 8; count++) {
            SortPlans x = withEditions(count);
            c.due("bin of edition " + (count - 1), x.bin(1, 0, 0), count);
            c.due("the edition before the first", x.compare(-1), Checks.UNKNOWN);
            for (int edition = 0; edition < count; edition++) {
                c.due("edition " + edition + " of " + count, x.compare(edition), edition == count - 1 ? 0 : 1);
                x.swap(x.bin(1, 0, 0), edition + 1);
                c.due("edition " + edition + " as it was read", x.compare(edition), 0);
                x.swap(edition + 1, count);
            }
            c.due("the edition behind the last", x.compare(count), Checks.UNKNOWN);
        }
    }

    /** "(8 at most)" */
    private static void eightAtMost(Checks c) {
        SortPlans x = withEditions(7);
        c.due("read of the eighth", Checks.readOf(x, "B2,0,0,3;O1,2;"), 2);
        c.due("the eighth", x.compare(7), 0);
        c.due("read of the ninth", Checks.readOf(x, "B2,0,0,4;O1,3;"), -15);
        c.due("the ninth", x.compare(8), Checks.UNKNOWN);
        c.due("bin of the eighth", x.bin(2, 0, 0), 3);
        c.due("overflow of the eighth", x.overflow(1), 2);
    }

    /** "the length, if .. there are eight editions" */
    private static void ninthAnswersTheLength(Checks c) {
        for (String text : new String[] {"", "O1,2;", "T1,0-9,0;B1,0,0,5;", "O1,2;O2,3;O3,4;"}) {
            SortPlans x = withEditions(8);
            c.due("ninth read of " + text, Checks.readOf(x, text), -1 - text.length());
            c.due("tenth read of nothing", x.read(), -1);
            c.due("eleventh read of " + text, Checks.readOf(x, text), -1 - text.length());
        }
        for (Object[] bad : BAD) {
            c.due("ninth read of " + bad[0], Checks.readOf(withEditions(8), (String) bad[0]), (Integer) bad[1]);
        }
    }

    /** An object whose eighth edition was held, exchanged and checked. */
    private static SortPlans busyAtTheEighth() {
        SortPlans x = withEditions(7);
        Checks.readOf(x, "T1,0-9,0;T2,0-9,0;T3,0-9,0;B1,0,0,5;B2,0,0,5;B1,3,2,6;O5,6;");
        x.hold(2, true);
        x.swap(5, 8);
        x.check();
        x.swap(6, 9);
        return x;
    }

    /** "(The plan stays then.)", with what was exchanged, held and found since. */
    private static void ninthLeavesThePlan(Checks c) {
        c.dueSameState("ninth read of nothing", () -> {
            SortPlans x = busyAtTheEighth();
            x.read();
            return x;
        }, EditionsTest::busyAtTheEighth);
        c.dueSameState("ninth read", () -> {
            SortPlans x = busyAtTheEighth();
            Checks.readOf(x, "T1,0-9999,1;B1,0,0,7;B3,0,0,8;O5,7;");
            return x;
        }, EditionsTest::busyAtTheEighth);
    }

    private static void badTextIsNoEdition(Checks c) {
        for (Object[] bad : BAD) {
            SortPlans x = new SortPlans();
            c.due("first read of " + bad[0], Checks.readOf(x, (String) bad[0]), (Integer) bad[1]);
            c.due("no plan", x.bin(1, 0, 0), Checks.STATE);
            c.due("no check", x.check(), Checks.STATE);
            c.due("no edition, but no plan either", x.compare(0), Checks.STATE);
            for (int n = 1; n <= 8; n++) {
                c.due("read " + n, Checks.readOf(x, "O1,2;"), 1);
                c.due("read of " + bad[0], Checks.readOf(x, (String) bad[0]), (Integer) bad[1]);
                c.due("the latest", x.compare(n - 1), 0);
                c.due("the one behind it", x.compare(n), Checks.UNKNOWN);
            }
        }
    }

    /** An object whose first edition was held, exchanged and checked. */
    private static SortPlans busyAtTheFirst() {
        SortPlans x = new SortPlans();
        Checks.readOf(x, "T1,0-9,0;T2,0-9,0;T3,0-9,0;B1,0,0,5;B2,0,0,5;B1,3,2,6;O5,6;");
        x.hold(2, true);
        x.swap(5, 8);
        x.check();
        x.swap(6, 9);
        return x;
    }

    private static void badTextLeavesThePlan(Checks c) {
        for (Object[] bad : BAD) {
            c.dueSameState("read of " + bad[0], () -> {
                SortPlans x = busyAtTheFirst();
                Checks.readOf(x, (String) bad[0]);
                return x;
            }, EditionsTest::busyAtTheFirst);
            c.dueSameState("first read of " + bad[0], () -> {
                SortPlans x = new SortPlans();
                Checks.readOf(x, (String) bad[0]);
                return x;
            }, SortPlans::new);
        }
    }

    /** "The text is read, and is empty then": after a good one, a bad one, and one too many. */
    private static void textIsEmptyThen(Checks c) {
        SortPlans x = new SortPlans();
        c.due("read of a bad text", Checks.readOf(x, "O1,2;O1,"), -9);
        c.due("read of nothing behind it", x.read(), 0);
        c.due("read of a good text", Checks.readOf(x, "O1,2;O2,3;"), 2);
        c.due("read of nothing behind it", x.read(), 0);
        c.due("overflow of the empty edition", x.overflow(1), 1);
        for (int n = 4; n <= 8; n++) {
            c.due("read " + n, Checks.readOf(x, "O1,2;"), 1);
        }
        c.due("read of one too many", Checks.readOf(x, "O1,4;"), -6);
        c.due("read of nothing behind it", x.read(), -1);
        c.due("overflow of the eighth", x.overflow(1), 2);
    }

    /** "THE PLAN is the latest one, with what was exchanged or held since": not with what was before. */
    private static void latestOneAlone(Checks c) {
        c.dueSameState("the same text again", () -> {
            SortPlans x = new SortPlans();
            Checks.readOf(x, "T9,0-9999,9;B9,2,1,7;B1,0,0,5+;O7,8;O5,5;");
            x.hold(1, true);
            x.hold(9, true);
            x.swap(5, 7);
            Checks.readOf(x, "T1,0-9,0;T2,0-9,0;B1,0,0,5;B2,0,0,5+;O5,6;");
            return x;
        }, () -> {
            SortPlans x = new SortPlans();
            Checks.readOf(x, "B1,0,0,5;B9,2,1,7;");
            Checks.readOf(x, "T1,0-9,0;T2,0-9,0;B1,0,0,5;B2,0,0,5+;O5,6;");
            return x;
        });
    }
}
