/** Promises 34 to 40 at their bounds: which women it had nearly been. */
public final class NearlyEdgesTest extends Edges {
    /** By 8 years: at landing 2 a is 16, at landing 5 she is 40; b is a year younger. */
    private static final String TWO = "oath years 8 trial 1;harbour h news 0 worth 0;woman a proud in h heart 0 born 0;"
        + "woman b proud in h heart 0 born 1";

    private static final Scene NOTHING_TOLD = new Scene("nothing told", TWO);
    private static final Scene NOBODY = new Scene("nobody was", TWO + ";nearly landing 2 age 16;nearly landing 0 age 16;nearly landing 8 age 40");
    private static final Scene ONE_FOR_TWO = new Scene("one woman for two", TWO + ";nearly landing 2 age 16;nearly landing 5 age 40");

    private NearlyEdgesTest() {
        super("NearlyEdgesTest");
    }

    public static void main(String[] args) {
        NearlyEdgesTest t = new NearlyEdgesTest();
        t.nothingTold();
        t.promise34();
        t.promise35();
        t.promise36();
        t.promise37();
        t.promise38And39();
        t.promise40();
        t.whatDoesNotMatter();
        t.oneBehindTheOther();
        t.check.end();
    }

    /** "6 (nothing told)" of rows, ask, askLeaves; 1 of could, surely, firstOf; -2 of judge. */
    private void nothingTold() {
        refusesAll(NOTHING_TOLD, -1, 6, "rows()", "ask()", "askLeaves()");
        refusesAll(NOTHING_TOLD, -1, 1, "could(0)", "surely(0)", "firstOf(0)", "could(-1)", "surely(-1)", "firstOf(-1)");
        answers(NOTHING_TOLD, "judge()", -2);
    }

    /** rows: none, one, and as many as there can be. */
    private void promise34() {
        answers(NOBODY, "rows()", 0);
        answers(ONE_FOR_TWO, "rows()", 0);
        answers(TOLD, "rows()", 1);
        answers(FULL, "rows()", 6 * 5 * 4 * 3);
        Scene most = new Scene("all alike", FULL_TEXT.replace("born60", "born0"));
        answers(most, "rows()", 8 * 7 * 6 * 5);
        answers(most, "askLeaves()", 7 * 6 * 5);
        answers(most, "could(3)", 255);
        answers(new Scene("one told", TWO + ";nearly landing 2 age 16"), "rows()", 1);
        // Of 15 and of 17 at landing 2 there is nobody but b, born in year 1.
        answers(new Scene("a year off", TWO + ";nearly landing 2 age 17"), "rows()", 0);
        answers(new Scene("born 1", TWO + ";nearly landing 5 age 39"), "could(0)", 2);
        answers(new Scene("of 40", TWO + ";nearly landing 5 age 40"), "could(0)", 1);
    }

    /** could: bits, 0 without rows. NONE: 1. */
    private void promise35() {
        bounds(TOLD, "could(#)", 0, 1, 1, 4, NONE_SUCH);
        bounds(FULL, "could(#)", 0, 237, 3, 237, NONE_SUCH);
        bounds(NOBODY, "could(#)", 0, 0, 2, 0, NONE_SUCH);
        bounds(ONE_FOR_TWO, "could(#)", 0, 0, 1, 0, NONE_SUCH);
    }

    /** surely: "the one in all rows; -2. NONE: 1." */
    private void promise36() {
        bounds(TOLD, "surely(#)", 0, 0, 1, 2, NONE_SUCH);
        bounds(FULL, "surely(#)", 0, -2, 3, -2, NONE_SUCH);
        bounds(NOBODY, "surely(#)", 0, -2, 2, -2, NONE_SUCH);
        bounds(ONE_FOR_TWO, "surely(#)", 0, -2, 1, -2, NONE_SUCH);
        // Three born in year 0 and b: b surely of the second, nobody of the first.
        Scene mixed = new Scene("mixed", TWO + ";woman c proud in h heart 0 born 0;woman d proud in h heart 0 born 0;"
            + "nearly landing 2 age 16;nearly landing 3 age 23");
        bounds(mixed, "surely(#)", 0, -2, 1, 1, NONE_SUCH);
        bounds(mixed, "could(#)", 0, 13, 1, 2, NONE_SUCH);
        answers(mixed, "rows()", 3);
    }

    /** firstOf: "in the first row (by women, one told behind the other); -2 there is none. NONE: 1." */
    private void promise37() {
        bounds(TOLD, "firstOf(#)", 0, 0, 1, 2, NONE_SUCH);
        bounds(FULL, "firstOf(#)", 0, 0, 3, 5, NONE_SUCH);
        answers(FULL, "firstOf(1)", 2);
        answers(FULL, "firstOf(2)", 3);
        bounds(NOBODY, "firstOf(#)", 0, -2, 2, -2, NONE_SUCH);
        bounds(ONE_FOR_TWO, "firstOf(#)", 0, -2, 1, -2, NONE_SUCH);
    }

    /** ask, askLeaves: "the first such; -2 there are no rows. NONE: 1 (no OATH); 6 (nothing told)". */
    private void promise38And39() {
        for (String call : new String[] {"ask()", "askLeaves()"}) {
            answers(NOBODY, call, -2);
            answers(ONE_FOR_TWO, call, -2);
        }
        answers(FULL, "ask()", 0);
        answers(FULL, "askLeaves()", 5 * 4 * 3);
        answers(TOLD, "ask()", 0);
        answers(TOLD, "askLeaves()", 1);
        // a, c, d for the last, b alone for those ahead of it: by b all three rows are left, by the last one row.
        Scene last = new Scene("the last", TWO + ";woman c proud in h heart 0 born 0;woman d proud in h heart 0 born 0;"
            + "nearly landing 3 age 23;nearly landing 2 age 16");
        answers(last, "ask()", 1);
        answers(last, "askLeaves()", 1);
        Scene one = new Scene("one told", TWO + ";nearly landing 2 age 16");
        answers(one, "ask()", 0);
        answers(one, "askLeaves()", 1);
    }

    /** judge: "The first told of which no woman was, by herself; -2. NONE: 1 (no OATH)." */
    private void promise40() {
        answers(NOBODY, "judge()", 1);
        answers(ONE_FOR_TWO, "judge()", -2);
        answers(FULL, "judge()", -2);
        answers(TOLD, "judge()", -2);
        answers(new Scene("the first", TWO + ";nearly landing 0 age 16"), "judge()", 0);
        answers(new Scene("the fourth", TWO + ";nearly landing 2 age 16;nearly landing 5 age 40;nearly landing 3 age 24;"
            + "nearly landing 8 age 40"), "judge()", 3);
    }

    /** Who is TRIED, where he is and whether he is FREED is nothing to NEARLY. */
    private void whatDoesNotMatter() {
        answers(FREED, "rows()", 1);
        answers(FREED, "could(0)", 1);
        answers(FREED, "surely(0)", 0);
        answers(FREED, "firstOf(0)", 0);
        answers(FREED, "ask()", 0);
        answers(FREED, "askLeaves()", 1);
        answers(FREED, "judge()", -2);
        answers(LAST, "rows()", 1);
        answers(new Scene("TRIED", Check.EXAMPLE, "court(0)"), "rows()", 1);
        answers(new Scene("TRIED", Check.EXAMPLE, "court(0)"), "surely(0)", 0);
    }

    /** Nothing is left of a question in the next one, nor of an OATH in another one. */
    private void oneBehindTheOther() {
        SworeCaptain x = FULL.make();
        run(x, "rows() = 360", "rows() = 360", "ask() = 0", "askLeaves() = 60", "askLeaves() = 60", "could(3) = 237", "surely(3) = -2",
            "firstOf(3) = 5", "could(4) = -1 ! 1", "could(0) = 237 ! 0", "rows() = 360", "oath(100) = 1", "rows() = -1 ! 6", "could(0) = -1 ! 1");
        Check.tell(x, TWO + ";nearly landing 5 age 39");
        run(x, "rows() = 1", "could(0) = 2", "surely(0) = 1", "firstOf(0) = 1", "askLeaves() = 1", "could(1) = -1 ! 1");
        Check.tell(x, TWO + ";nearly landing 0 age 16");
        run(x, "rows() = 0", "could(0) = 0", "surely(0) = -2", "firstOf(0) = -2", "ask() = -2", "askLeaves() = -2", "judge() = 0");
    }
}
