/** Promises 34 to 40: which women it had nearly been. */
public final class NearlyTest {
    /** By 7 years. At landing 3 of age 21, or at 4 of 28: born 0. At landing 4 of age 21: born 7. */
    private static final String WOMEN = "oath years 7 trial 1;harbour h news 0 worth 0;woman a plain in h heart 1 born 0;"
        + "woman b plain in h heart 0 born 0;woman c plain in h heart 1 born 7;woman d plain in h heart 1 born 0";

    private final Check check = new Check("NearlyTest");

    public static void main(String[] args) {
        NearlyTest t = new NearlyTest();
        t.refusals();
        t.rows();
        t.noRows();
        t.questions();
        t.edges();
        t.check.end();
    }

    private void refusals() {
        SworeCaptain x = new SworeCaptain();
        check.due(x, "rows()", x.rows(), -1, 1);
        check.due(x, "could(0)", x.could(0), -1, 1);
        check.due(x, "surely(0)", x.surely(0), -1, 1);
        check.due(x, "firstOf(0)", x.firstOf(0), -1, 1);
        check.due(x, "ask()", x.ask(), -1, 1);
        check.due(x, "askLeaves()", x.askLeaves(), -1, 1);
        check.due(x, "judge()", x.judge(), -1, 1);
        SworeCaptain y = Check.told(WOMEN);
        check.due(y, "rows(), nothing told", y.rows(), -1, 6);
        check.due(y, "could(0), nothing told", y.could(0), -1, 1);
        check.due(y, "surely(0), nothing told", y.surely(0), -1, 1);
        check.due(y, "firstOf(0), nothing told", y.firstOf(0), -1, 1);
        check.due(y, "ask(), nothing told", y.ask(), -1, 6);
        check.due(y, "askLeaves(), nothing told", y.askLeaves(), -1, 6);
        check.due(y, "judge(), nothing told", y.judge(), -2, 0);
        SworeCaptain z = Check.told(Check.EXAMPLE);
        for (int k : new int[] {-1, 2, 4, Integer.MIN_VALUE, Integer.MAX_VALUE}) {
            check.due(z, "could(k)", z.could(k), -1, 1);
            check.due(z, "surely(k)", z.surely(k), -1, 1);
            check.due(z, "firstOf(k)", z.firstOf(k), -1, 1);
        }
    }

    private void rows() {
        SworeCaptain x = Check.told(Check.EXAMPLE);
        check.due(x, "rows() of the example", x.rows(), 1, 0);
        int[] who = {0, 2};
        for (int k = 0; k < 2; k++) {
            check.due(x, "could of the example", x.could(k), 1 << who[k], 0);
            check.due(x, "surely of the example", x.surely(k), who[k], 0);
            check.due(x, "firstOf of the example", x.firstOf(k), who[k], 0);
        }
        check.due(x, "ask() of the example", x.ask(), 0, 0);
        check.due(x, "askLeaves() of the example", x.askLeaves(), 1, 0);
        check.due(x, "judge() of the example", x.judge(), -2, 0);

        SworeCaptain y = Check.told(WOMEN + ";nearly landing 4 age 21;nearly landing 3 age 21;nearly landing 4 age 28");
        int[] could = {4, 11, 11};
        int[] surely = {2, -2, -2};
        int[] first = {2, 0, 1};
        check.due(y, "rows(), nobody twice", y.rows(), 6, 0);
        for (int k = 0; k < 3; k++) {
            check.due(y, "could(" + k + ")", y.could(k), could[k], 0);
            check.due(y, "surely(" + k + ")", y.surely(k), surely[k], 0);
            check.due(y, "firstOf(" + k + ")", y.firstOf(k), first[k], 0);
        }
        check.due(y, "ask()", y.ask(), 1, 0);
        check.due(y, "askLeaves()", y.askLeaves(), 2, 0);
        check.due(y, "judge()", y.judge(), -2, 0);
        y.court(0);
        check.due(y, "rows(), one TRIED", y.rows(), 6, 0);
    }

    private void noRows() {
        SworeCaptain x = Check.told(WOMEN + ";nearly landing 4 age 21;nearly landing 4 age 21");
        check.due(x, "rows(), one woman for two", x.rows(), 0, 0);
        check.due(x, "could(0)", x.could(0), 0, 0);
        check.due(x, "surely(0)", x.surely(0), -2, 0);
        check.due(x, "firstOf(1)", x.firstOf(1), -2, 0);
        check.due(x, "ask()", x.ask(), -2, 0);
        check.due(x, "askLeaves()", x.askLeaves(), -2, 0);
        check.due(x, "judge(), each by herself was", x.judge(), -2, 0);
        SworeCaptain y = Check.told(WOMEN + ";nearly landing 4 age 21;nearly landing 3 age 20;nearly landing 3 age 19");
        check.due(y, "rows(), no woman for one", y.rows(), 0, 0);
        check.due(y, "could(0)", y.could(0), 0, 0);
        check.due(y, "surely(0)", y.surely(0), -2, 0);
        check.due(y, "firstOf(0)", y.firstOf(0), -2, 0);
        check.due(y, "judge(), the first", y.judge(), 1, 0);
        SworeCaptain z = Check.told(WOMEN + ";nearly landing 0 age 16");
        check.due(z, "judge(), the only one", z.judge(), 0, 0);
        check.due(z, "rows(), no woman for the only one", z.rows(), 0, 0);
        SworeCaptain one = Check.told(WOMEN + ";nearly landing 3 age 21");
        check.due(one, "rows(), one told", one.rows(), 3, 0);
        check.due(one, "could(0), one told", one.could(0), 11, 0);
        check.due(one, "askLeaves(), one told", one.askLeaves(), 1, 0);
    }

    private void questions() {
        // Two born 2 and three born 0: rows 6; told who of the two she was 3 are left, of the three 2.
        String women = "oath years 7 trial 1;harbour h news 0 worth 0;woman a plain in h heart 1 born 2;"
            + "woman b plain in h heart 1 born 2;woman c plain in h heart 1 born 0;woman d plain in h heart 1 born 0;"
            + "woman e plain in h heart 1 born 0";
        SworeCaptain x = Check.told(women + ";nearly landing 3 age 19;nearly landing 3 age 21");
        check.due(x, "rows()", x.rows(), 6, 0);
        check.due(x, "ask(), the second", x.ask(), 1, 0);
        check.due(x, "askLeaves()", x.askLeaves(), 2, 0);
        check.due(x, "firstOf(0)", x.firstOf(0), 0, 0);
        check.due(x, "firstOf(1)", x.firstOf(1), 2, 0);
        check.due(x, "could(1)", x.could(1), 4 + 8 + 16, 0);
        SworeCaptain y = Check.told(women + ";nearly landing 3 age 21;nearly landing 3 age 19");
        check.due(y, "ask(), the first", y.ask(), 0, 0);
    }

    private void edges() {
        StringBuilder text = new StringBuilder("oath years 8 trial 1;harbour h news 0 worth 0");
        for (char w = 'a'; w < 'i'; w++) {
            text.append(";woman w").append(w).append(" plain in h heart 1 born 0");
        }
        text.append(";nearly landing 2 age 16;nearly landing 5 age 40;nearly landing 3 age 24;nearly landing 4 age 32");
        SworeCaptain x = Check.told(text.toString());
        check.due(x, "rows() of eight women for four", x.rows(), 8 * 7 * 6 * 5, 0);
        check.due(x, "askLeaves() of them", x.askLeaves(), 7 * 6 * 5, 0);
        check.due(x, "could(3) of them", x.could(3), 255, 0);
        check.due(x, "firstOf(3) of them", x.firstOf(3), 3, 0);
        check.due(x, "ask() of them", x.ask(), 0, 0);
    }
}
