/** Promises 41 to 43 at their bounds: lives by draws. From SEED 0 the draws are, mod 100, 74, 24, 52, 90, 41, 9, 31, 44, 4. */
public final class LifeEdgesTest extends Edges {
    /** OF AGE from landing 2 to landing 5. */
    private static final String ONE = "oath years 8 trial 1;harbour h news 0 worth 0;woman a proud in h heart 75 born 0";

    private LifeEdgesTest() {
        super("LifeEdgesTest");
    }

    public static void main(String[] args) {
        LifeEdgesTest t = new LifeEdgesTest();
        t.promise41();
        t.promise42();
        t.lastLandings();
        t.promise43();
        t.refusedTogether();
        t.drawsAtTheEdge();
        t.freedLandsNoMore();
        t.oneBehindTheOther();
        t.check.end();
    }

    /** life: "a SEED (0 .. 65,536) of n landings to come (0 .. 20) ..; 0 he isn't". */
    private void promise41() {
        bounds(TOLD, "life(#, 20)", 0, 4, 65536, 4, NUMBER);
        bounds(TOLD, "life(0, #)", 0, 0, 20, 4, NUMBER);
        answers(TOLD, "life(0, 3)", 0);
        answers(TOLD, "life(0, 4)", 4);
        // From landing 3 in bay: cis by 74 isn't TRUE, ann by 24 is.
        bounds(UNDER_WAY, "life(0, #)", 0, 0, 20, 2, NUMBER);
        answers(UNDER_WAY, "life(0, 1)", 0);
        bounds(LAST, "life(0, #)", 0, 0, 20, 0, NUMBER);
        Scene one = new Scene("one woman", ONE, "sail(0)");
        bounds(one, "life(0, #)", 0, 0, 20, 1, NUMBER);
        answers(one, "life(0, 1)", 1);
        answers(new Scene("one woman, TRIED", ONE, "court(0)", "sail(0)"), "life(0, 20)", 0);
    }

    /** lifeBy: "By whom; -2." */
    private void promise42() {
        bounds(TOLD, "lifeBy(#, 20)", 0, 2, 65536, 2, NUMBER);
        bounds(TOLD, "lifeBy(0, #)", 0, -2, 20, 2, NUMBER);
        answers(TOLD, "lifeBy(0, 3)", -2);
        bounds(UNDER_WAY, "lifeBy(0, #)", 0, -2, 20, 0, NUMBER);
        bounds(LAST, "lifeBy(0, #)", 0, -2, 20, -2, NUMBER);
        answers(new Scene("one woman", ONE, "sail(0)"), "lifeBy(0, 1)", 0);
    }

    /** Five women OF AGE from landing 16 to 20, TRIED one a landing: the draws from SEED 51,790 are 41, 9, 31, 44, 4. */
    private void lastLandings() {
        Scene late = new Scene("late", "oath years 5 trial 1;harbour h news 0 worth 0;woman a proud in h heart 5 born 60;"
            + "woman b proud in h heart 9 born 60;woman c proud in h heart 9 born 60;woman d proud in h heart 9 born 60;"
            + "woman e proud in h heart 41 born 60");
        answers(late, "life(51790, 19)", 0);
        answers(late, "lifeBy(51790, 19)", -2);
        answers(late, "life(51790, 20)", 20);
        answers(late, "lifeBy(51790, 20)", 0);
    }

    /** lives: "of n (1 .. 30) LIVES of three landings to come, SEED going on". */
    private void promise43() {
        // One draw a life, at landing 3, below 30 of ann.
        bounds(TOLD, "lives(0, #)", 1, 0, 30, 8, NUMBER);
        bounds(TOLD, "lives(#, 30)", 0, 8, 65536, 0, NUMBER);
        answers(TOLD, "lives(0, 2)", 1);
        answers(TOLD, "lives(74, 1)", 1);
        bounds(LAST, "lives(0, #)", 1, 0, 30, 0, NUMBER);
        bounds(new Scene("one woman", ONE), "lives(65536, #)", 1, 1, 30, 30, NUMBER);
        // Of 16 at the third landing and at the fourth.
        answers(new Scene("at the third", "oath years 6 trial 1;harbour h news 0 worth 0;woman a proud in h heart 75 born 0"), "lives(0, 1)", 1);
        answers(new Scene("at the fourth", "oath years 5 trial 1;harbour h news 0 worth 0;woman a proud in h heart 75 born 0"), "lives(0, 1)", 0);
    }

    /** "NONE: 1 (no OATH); 2; 5." */
    private void refusedTogether() {
        refusesAll(FREED, -1, 5, "life(0, 0)", "life(65536, 20)", "lifeBy(0, 0)", "lifeBy(65536, 20)", "lives(0, 1)", "lives(65536, 30)");
        refusesAll(FREED, -1, 2, "life(-1, 0)", "life(65537, 0)", "life(0, -1)", "life(0, 21)", "lifeBy(-1, 0)", "lifeBy(65537, 0)",
            "lifeBy(0, -1)", "lifeBy(0, 21)", "lives(-1, 1)", "lives(65537, 1)", "lives(0, 0)", "lives(0, 31)");
        refusesAll(TOLD, -1, 2, "life(-1, 21)", "lifeBy(65537, -1)", "lives(-1, 0)", "lives(65537, 31)", "lives(0, -1)");
    }

    /** "a DRAW mod 100 below LOVE", and no draw where there is no LOVE above 0. */
    private void drawsAtTheEdge() {
        answers(new Scene("74 below 75", ONE), "life(0, 2)", 2);
        Scene less = new Scene("74 not below 74", ONE.replace("heart 75", "heart 74"));
        answers(less, "life(0, 2)", 0);
        answers(less, "life(0, 20)", 0);
        answers(less, "life(74, 20)", 2);
        // SEEDS whose next is 0, 99, 65,499 and 65,498.
        answers(new Scene("0 below 1", ONE.replace("heart 75", "heart 1")), "life(45438, 2)", 2);
        answers(new Scene("0 not below 0", ONE.replace("heart 75", "heart 0")), "life(45438, 20)", 0);
        Scene most = new Scene("99", ONE.replace("heart 75", "heart 99"));
        answers(most, "life(21846, 20)", 0);
        answers(most, "life(22718, 20)", 0);
        answers(most, "life(42816, 20)", 2);
        answers(most, "life(41944, 20)", 2);
        // "on each day of the trial, till one isn't below it": 74, 24, 52 below 75; 52, 90.
        Scene three = new Scene("three days", ONE.replace("trial 1", "trial 3"));
        answers(three, "life(0, 2)", 2);
        answers(three, "life(5624, 20)", 0);
        // Each life but the last needs its days: 74 24 52; 90; 41 9 31; 44 4 50; 39 86.
        int[] freed = {1, 1, 2, 3, 3};
        for (int n = 1; n <= 5; n++) {
            answers(three, "lives(0, " + n + ")", freed[n - 1]);
        }
    }

    /** "if on all of them, he is FREED and lands no more". */
    private void freedLandsNoMore() {
        Scene two = new Scene("two women", ONE + ";woman b proud in h heart 75 born 0", "sail(0)");
        answers(two, "life(0, 20)", 1);
        answers(two, "lifeBy(0, 20)", 0);
        // 74; 24; 52; 90 and 41; 9; 31; 44: a draw a life but for the fourth.
        for (int n = 1; n <= 6; n++) {
            answers(two, "lives(0, " + n + ")", n);
        }
        // 90 and 86 by the first, 41 and 34 by the second.
        answers(two, "lifeBy(28652, 2)", 1);
        answers(two, "life(28652, 2)", 2);
        answers(two, "life(28652, 1)", 0);
    }

    /** A LIFE leaves nothing behind: neither SEED nor who is TRIED, nor that he was FREED in it. */
    private void oneBehindTheOther() {
        run(TOLD.make(), "life(0, 20) = 4", "life(0, 3) = 0", "lifeBy(0, 20) = 2", "lifeBy(0, 3) = -2", "life(0, 0) = 0", "life(0, 21) = -1 ! 2",
            "life(0, 20) = 4 ! 0", "lives(0, 30) = 8", "lives(0, 30) = 8", "lives(0, 1) = 0", "life(65536, 20) = 4", "size(12) = 0", "sail(0) = 1",
            "life(0, 20) = 3", "undo() = 1", "life(0, 20) = 4", "seed(65536) = 1", "life(0, 20) = 4", "size(12) = 65536");
    }
}
