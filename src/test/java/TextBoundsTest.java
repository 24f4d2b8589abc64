/**
 * The bounds that the section "Terms" sets to a text: its sentences, their numbers and their figures. Every text is
 * read on a new object, and what is due of one that is refused is the place of its first trouble.
 */
public final class TextBoundsTest {
    /** A sentence with # for one of its numbers, and that number's least and greatest. */
    private record Bounded(String sentence, int least, int greatest) {
        int place() {
            return sentence.indexOf('#');
        }

        String with(String number) {
            return sentence.replace("#", number);
        }
    }

    private static final Bounded[] NUMBERS = {
        new Bounded("T#,0-0,0;", 1, 40), new Bounded("T1,#-9999,0;", 0, 9999), new Bounded("T1,0-#,0;", 0, 9999),
        new Bounded("T1,0-0,#;", 0, 9), new Bounded("B#,0,0,1;", 1, 40), new Bounded("B1,#,0,1;", 0, 3),
        new Bounded("B1,0,#,1;", 0, 2), new Bounded("B1,0,0,#;", 1, 60), new Bounded("B1,0,0,#+;", 1, 60),
        new Bounded("O#,1;", 1, 60), new Bounded("O1,#;", 1, 60),
    };

    /** Each number of these is as said after its first figure too, so that no trouble comes before the one meant. */
    private static final String[] SENTENCES = {"T12,0-56,7;", "B12,3,2,10;", "B12,3,2,10+;", "O12,34;"};

    public static void main(String[] args) {
        Checks c = new Checks();
        lastWithinAndFirstOutside(c);
        toNotLessThanFrom(c);
        oneToFourFigures(c);
        numbersOutsideWithMoreFigures(c);
        emptyRowOfSentences(c);
        eachEndedBySemicolon(c);
        endsTooEarly(c);
        noBlanks(c);
        signsThatCannotStand(c);
        plusBehindTheBinAlone(c);
        severalForOneTarget(c);
        oneForTargetPassAndShift(c);
        oneForFirstBin(c);
        c.end();
    }

    /** "codes from .. to (0 .. 9999 ..) of a kind 0 .. 9", "TARGET (1 .. 40)", "pass 0 .. 3", "BIN 1 .. 60" .. */
    private static void lastWithinAndFirstOutside(Checks c) {
        for (Bounded b : NUMBERS) {
            c.dueRead(b.with("" + b.least), 1);
            c.dueRead(b.with("" + b.greatest), 1);
            c.dueRead(b.with("" + (b.least - 1)), -1 - b.place());
            // A code above 9999 has five figures, and it is the fifth that cannot stand there.
            int trouble = b.greatest == 9999 ? b.place() + 4 : b.place();
            c.dueRead(b.with("" + (b.greatest + 1)), -1 - trouble);
        }
    }

    /** "to not less than from" */
    private static void toNotLessThanFrom(Checks c) {
        for (int from : new int[] {0, 1, 9, 10, 5000, 9998, 9999}) {
            String start = "T1," + from + "-";
            c.dueRead(start + from + ",0;", 1);
            c.dueRead(start + "9999,0;", 1);
            if (from > 0) {
                c.dueRead(start + (from - 1) + ",0;", -1 - start.length());
                c.dueRead(start + "0,0;", -1 - start.length());
            }
        }
        SortPlans x = c.planOf("T1,7-7,0;", 1);
        c.due("before the one code", x.target(6, 0), 0);
        c.due("the one code", x.target(7, 0), 1);
        c.due("behind the one code", x.target(8, 0), 0);
    }

    /** "NUMBERS have one to four figures." */
    private static void oneToFourFigures(Checks c) {
        for (Bounded b : NUMBERS) {
            String four = "000" + b.least;
            c.dueRead(b.with(""), -1 - b.place());
            c.dueRead(b.with(four.substring(3)), 1);
            c.dueRead(b.with(four.substring(2)), 1);
            c.dueRead(b.with(four.substring(1)), 1);
            c.dueRead(b.with(four), 1);
            c.dueRead(b.with(four + "0"), -1 - (b.place() + 4));
            c.dueRead(b.with(four + "00000"), -1 - (b.place() + 4));
        }
        SortPlans x = c.planOf("T0002,0030-0400,0005;B0002,0001,0002,0060;O0060,0009;", 3);
        c.due("target of four figures", x.target(30, 5), 2);
        c.due("bin of four figures", x.bin(2, 1, 2), 60);
        c.due("going on with four figures", x.overflow(60), 9);
    }

    /** Whose first four figures are no number as said is told at the first of them, however many more there are. */
    private static void numbersOutsideWithMoreFigures(Checks c) {
        for (Bounded b : NUMBERS) {
            if (b.greatest < 9999) {
                c.dueRead(b.with("9999"), -1 - b.place());
                c.dueRead(b.with("99999"), -1 - b.place());
                c.dueRead(b.with("4294967297"), -1 - b.place());
            }
            if (b.least > 0) {
                c.dueRead(b.with("0000"), -1 - b.place());
                c.dueRead(b.with("00001"), -1 - b.place());
            }
        }
    }

    /** "THE TEXT is a row of SENTENCES": also of none. */
    private static void emptyRowOfSentences(Checks c) {
        SortPlans x = c.planOf("", 0);
        c.due("target", x.target(0, 0), 0);
        c.due("bin", x.bin(1, 0, 0), 0);
        c.due("check", x.check(), 0);
        c.due("compare", x.compare(0), 0);
        c.due("swap", x.swap(1, 2), 0);
        c.due("overflow", x.overflow(1), 1);
        c.due("print", x.print(0), 0);
    }

    /** "each ended by ;" */
    private static void eachEndedBySemicolon(Checks c) {
        c.dueRead(";", -1);
        for (String sentence : SENTENCES) {
            String open = sentence.substring(0, sentence.length() - 1);
            c.dueRead(open, -1 - open.length());
            c.dueRead(sentence, 1);
            c.dueRead(sentence + ";", -1 - sentence.length());
            c.dueRead(open + "O1,2;", -1 - open.length());
            c.dueRead(open + ",", -1 - open.length());
        }
    }

    /** "the length, if it ends too early": after any sign that is not the ; of a sentence. */
    private static void endsTooEarly(Checks c) {
        String before = "O1,2;O2,3;";
        for (String sentence : SENTENCES) {
            for (int length = 1; length < sentence.length(); length++) {
                String part = sentence.substring(0, length);
                c.dueRead(part, -1 - length);
                c.dueRead(before + part, -1 - before.length() - length);
            }
        }
        // A number is judged as far as the text goes: here 123 is less than the code from, and 0 is no target.
        c.dueRead("T1,1234-123", -9);
        c.dueRead("T1,1234-1234", -13);
        c.dueRead("T0", -2);
    }

    /** "no blanks but those told here": none are told. */
    private static void noBlanks(Checks c) {
        for (String sentence : SENTENCES) {
            for (int place = 0; place <= sentence.length(); place++) {
                c.dueRead(sentence.substring(0, place) + " " + sentence.substring(place), -1 - place);
            }
        }
        c.dueRead(" ", -1);
        c.dueRead("   ", -1);
    }

    /** "the first sign that cannot stand where it does": the first and the last sign there is, and others. */
    private static void signsThatCannotStand(Checks c) {
        for (String sentence : SENTENCES) {
            for (int place = 0; place < sentence.length(); place++) {
                for (char sign : new char[] {' ', '~', '/', ':', 't', 'b', 'o', '.'}) {
                    c.dueRead(sentence.substring(0, place) + sign + sentence.substring(place + 1), -1 - place);
                }
            }
        }
    }

    /** "a + behind the bin" */
    private static void plusBehindTheBinAlone(Checks c) {
        c.dueRead("B1,0,0,1+;", 1);
        c.dueRead("B1,0,0,1++;", -10);
        c.dueRead("B1,0,0,+1;", -8);
        c.dueRead("B1,0,0,1;+", -10);
        c.dueRead("B1,0,0+,1;", -7);
        c.dueRead("B1,0+,0,1;", -5);
        c.dueRead("B1+,0,0,1;", -3);
        c.dueRead("+B1,0,0,1;", -1);
        c.dueRead("O1,2+;", -5);
        c.dueRead("T1,0-0,0+;", -9);
    }

    /** "A target may have several such sentences." */
    private static void severalForOneTarget(Checks c) {
        c.dueRead("T1,0-0,0;T1,0-0,0;", 2);
        c.dueRead("T1,0-0,0;".repeat(50), 50);
        SortPlans x = c.planOf("T3,10-19,0;T3,30-39,0;T3,15-35,1;", 3);
        c.due("the first", x.target(10, 0), 3);
        c.due("between them", x.target(20, 0), 0);
        c.due("the second", x.target(39, 0), 3);
        c.due("another kind", x.target(20, 1), 3);
    }

    /** "One sentence for a target, pass and shift.": the second one's first sign is told. */
    private static void oneForTargetPassAndShift(Checks c) {
        for (int n = 0; n < 40 * 12; n++) {
            int target = n / 12 + 1;
            int pass = n % 12 / 3;
            int shift = n % 3;
            String first = binAt(target, pass, shift) + "1;";
            c.dueRead(first + first, -1 - first.length());
            c.dueRead(first + binAt(target, pass, shift) + "2+;", -1 - first.length());
            String others = first + binAt(target % 40 + 1, pass, shift) + "1;"
                + binAt(target, (pass + 1) % 4, shift) + "1;" + binAt(target, pass, (shift + 1) % 3) + "1;";
            c.dueRead(others, 4);
            c.dueRead(others + first + "O1,2;", -1 - others.length());
        }
    }

    private static String binAt(int target, int pass, int shift) {
        return "B" + target + "," + pass + "," + shift + ",";
    }

    /** "one sentence for a first bin": as many as there are bins, and others may go on into the same one. */
    private static void oneForFirstBin(Checks c) {
        for (int bin = 1; bin <= 60; bin++) {
            int other = bin % 60 + 1;
            String first = "O" + bin + ",7;";
            c.dueRead(first + first, -1 - first.length());
            c.dueRead(first + "O" + bin + ",8;", -1 - first.length());
            c.dueRead(first + "O" + other + ",7;", 2);
            c.dueRead(first + "O" + other + "," + bin + ";O" + bin + ",1;",
                -1 - first.length() - ("O" + other + "," + bin + ";").length());
        }
        StringBuilder all = new StringBuilder();
        for (int bin = 1; bin <= 60; bin++) {
            all.append("O" + bin + ",60;");
        }
        c.dueRead(all.toString(), 60);
        c.dueRead(all + "O60,1;", -1 - all.length());
    }
}
