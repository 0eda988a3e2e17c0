/** Promises 19 to 27 at their bounds: where to land. */
public final class PlanEdgesTest extends Edges {
    private static final String THREE_SAILS = "sail(0),sail(0),sail(0)";

    /** At landing 1 in h; the one woman is OF AGE from landing 2 on. */
    private static final Scene LONE = new Scene("one woman", SMALL, "sail(0)");
    private static final Scene LONE_TRIED = new Scene("one woman, TRIED", SMALL, "court(0)", "sail(0)");
    /** At landing 3 in a: six of eight women have LOVE from the next landing on, and all their harbours lie together. */
    private static final Scene FULL_LATER = new Scene("full, at landing 3", FULL_TEXT, THREE_SAILS.split(","));

    private static final String APART = "oath years 8 trial 3;harbour h news 0 worth 0;harbour g news 0 worth 0;"
        + "woman a proud in h heart 1 born 0;woman b proud in g heart 99 born 0;woman c proud in h heart 0 born 0";
    private static final Scene NO_SEA = new Scene("no sea", APART, "sail(0)");

    private PlanEdgesTest() {
        super("PlanEdgesTest");
    }

    public static void main(String[] args) {
        PlanEdgesTest t = new PlanEdgesTest();
        t.promise19();
        t.promise20();
        t.promise21();
        t.promise22();
        t.refusedTogether();
        t.promise23();
        t.promise24();
        t.lettersWhileItMatters();
        t.everyLetter();
        t.promise25();
        t.promise26();
        t.promise27();
        t.oneBehindTheOther();
        t.check.end();
    }

    private void fraction(Scene scene, String call, long upper, long lower) {
        answers(scene, call + ", false)", upper);
        answers(scene, call + ", true)", lower);
    }

    /** route: "n (1 .. 3) .. (0 by 1 if there is no such row). -1: 1 (no OATH); 2; 5 (he is FREED)." */
    private void promise19() {
        bounds(UNDER_WAY, "route(#, false)", 1, 9, 3, 173, NUMBER);
        bounds(UNDER_WAY, "route(#, true)", 1, 20, 3, 250, NUMBER);
        bounds(TOLD, "route(#, false)", 1, 0, 3, 0, NUMBER);
        bounds(TOLD, "route(#, true)", 1, 1, 3, 1, NUMBER);
        fraction(UNDER_WAY, "route(2", 123, 200);
        fraction(LONE, "route(1", 99, 100);
        // Women unlike: no row of two of one woman, none of one TRIED, none of LOVE 0, none where no sea goes.
        fraction(LONE, "route(2", 0, 1);
        fraction(LONE_TRIED, "route(1", 0, 1);
        fraction(NO_SEA, "route(1", 1, 1000000);
        fraction(NO_SEA, "route(2", 0, 1);
        fraction(LAST, "route(3", 0, 1);
        long missed = 29701L * 882351L * 882351L;
        fraction(FULL_LATER, "route(3", 1000000000000000000L - missed, 1000000000000000000L);
    }

    /** mean: "(0 by 1 without a row). -1: 1 (no OATH); 2; 5." */
    private void promise20() {
        bounds(UNDER_WAY, "mean(#, false)", 1, 9, 3, 19, NUMBER);
        bounds(UNDER_WAY, "mean(#, true)", 1, 20, 3, 20, NUMBER);
        bounds(TOLD, "mean(#, false)", 1, 0, 3, 0, NUMBER);
        bounds(TOLD, "mean(#, true)", 1, 1, 3, 1, NUMBER);
        fraction(UNDER_WAY, "mean(2", 3, 4);
        fraction(LONE, "mean(1", 99, 100);
        fraction(LONE, "mean(2", 0, 1);
        fraction(LONE_TRIED, "mean(1", 0, 1);
        fraction(NO_SEA, "mean(1", 1, 1000000);
        fraction(NO_SEA, "mean(2", 0, 1);
        fraction(LAST, "mean(3", 0, 1);
        fraction(FULL_LATER, "mean(3", 970299 + 2 * 117649, 1000000);
        // Two women of 50 in a hundred: 1 by 1, though it isn't sure that any is TRUE.
        Scene halves = new Scene("halves", "oath years 8 trial 1;harbour h news 0 worth 0;woman a proud in h heart 50 born 0;"
            + "woman b proud in h heart 50 born 0", "sail(0)");
        fraction(halves, "mean(2", 1, 1);
        fraction(halves, "route(2", 3, 4);
    }

    /** routeAt: "NONE: 1 (no OATH); 2; 5; 6 (no such row); then 1 (i)." */
    private void promise21() {
        bounds(UNDER_WAY, "routeAt(#, 0)", 1, 2, 3, 0, NUMBER);
        bounds(UNDER_WAY, "routeAt(1, #)", 0, 2, 0, 2, NONE_SUCH);
        bounds(UNDER_WAY, "routeAt(2, #)", 0, 0, 1, 2, NONE_SUCH);
        bounds(UNDER_WAY, "routeAt(3, #)", 0, 0, 2, 3, NONE_SUCH);
        bounds(FULL_LATER, "routeAt(3, #)", 0, 0, 2, 5, NONE_SUCH);
        answers(UNDER_WAY, "routeAt(3, 1)", 2);
        answers(FULL_LATER, "routeAt(3, 1)", 2);
        refusesAll(UNDER_WAY, -1, 2, "routeAt(0, 0)", "routeAt(4, -1)", "routeAt(4, 4)");
        for (Scene scene : new Scene[] {TOLD, LAST, LONE_TRIED}) {
            refusesAll(scene, -1, 6, "routeAt(1, 0)", "routeAt(2, 1)", "routeAt(3, 2)", "routeAt(1, 1)", "routeAt(3, 3)", "routeAt(1, -1)",
                "routeAt(2, MIN)", "routeAt(2, MAX)");
            refusesAll(scene, -1, 2, "routeAt(0, 0)", "routeAt(4, 0)");
        }
        refusesAll(FREED, -1, 5, "routeAt(1, 0)", "routeAt(3, 3)", "routeAt(1, -1)");
        refusesAll(LONE, -1, 6, "routeAt(2, 0)");
        answers(LONE, "routeAt(1, 0)", 0);
        answers(NO_SEA, "routeAt(1, 0)", 0);
    }

    /** routes: "How many such rows there are. NONE: 1 (no OATH); 2; 5." */
    private void promise22() {
        bounds(UNDER_WAY, "routes(#)", 1, 3, 3, 1, NUMBER);
        bounds(TOLD, "routes(#)", 1, 0, 3, 0, NUMBER);
        answers(UNDER_WAY, "routes(2)", 4);
        bounds(FULL_LATER, "routes(#)", 1, 6, 3, 120, NUMBER);
        answers(FULL_LATER, "routes(2)", 30);
        bounds(LONE, "routes(#)", 1, 1, 3, 0, NUMBER);
        answers(LONE, "routes(2)", 0);
        answers(LONE_TRIED, "routes(1)", 0);
        answers(NO_SEA, "routes(1)", 1);
        answers(LAST, "routes(1)", 0);
    }

    /** 2 is told ahead of 5, and 5 ahead of i. */
    private void refusedTogether() {
        refusesAll(FREED, -1, 5, "route(1, false)", "route(1, true)", "route(3, true)", "mean(1, true)", "mean(1, false)", "mean(3, true)",
            "routes(1)", "routes(3)", "letters(0)", "letters(5)", "lettersAt(1, 0)", "lettersAt(5, 4)", "lettersAt(0, 0)", "lettersAt(1, 1)",
            "lettersAt(1, -1)");
        refusesAll(FREED, -1, 2, "route(0, true)", "route(4, false)", "mean(0, true)", "mean(4, true)", "routes(0)", "routes(4)",
            "routeAt(0, 0)", "routeAt(4, 0)", "letters(-1)", "letters(6)", "lettersAt(-1, 0)", "lettersAt(6, 0)");
    }

    /** letters: "in so many landings to come (0 .. 5)". */
    private void promise23() {
        bounds(TOLD, "letters(#)", 0, 0, 5, 3, NUMBER);
        bounds(UNDER_WAY, "letters(#)", 0, 0, 5, 1, NUMBER);
        bounds(FULL, "letters(#)", 0, 0, 5, 5, NUMBER);
        bounds(LAST, "letters(#)", 0, 0, 5, 0, NUMBER);
        answers(UNDER_WAY, "letters(1)", 1);
        answers(FULL, "letters(1)", 1);
        answers(NO_SEA, "letters(5)", 0);
    }

    /** lettersAt: "NONE: 1 (no OATH); 2; 5; then 1 (i)." */
    private void promise24() {
        outside(TOLD, "lettersAt(#, 0)", 0, 5, NUMBER);
        outside(TOLD, "lettersAt(0, #)", 0, -1, NONE_SUCH);
        bounds(TOLD, "lettersAt(1, #)", 0, 0, 0, 0, NONE_SUCH);
        bounds(TOLD, "lettersAt(2, #)", 0, 1, 1, 0, NONE_SUCH);
        bounds(TOLD, "lettersAt(5, #)", 0, 1, 4, 0, NONE_SUCH);
        bounds(FULL, "lettersAt(5, #)", 0, 0, 4, 4, NONE_SUCH);
        bounds(LAST, "lettersAt(5, #)", 0, 0, 4, 0, NONE_SUCH);
        refusesAll(TOLD, -1, 1, "lettersAt(0, 0)", "lettersAt(0, -1)");
        refusesAll(TOLD, -1, 2, "lettersAt(6, -1)", "lettersAt(6, 6)", "lettersAt(-1, -1)");
        int[] row = {1, 2, 1, 0, 0};
        for (int i = 0; i < 5; i++) {
            answers(TOLD, "lettersAt(5, " + i + ")", row[i]);
            answers(FULL, "lettersAt(5, " + i + ")", i);
            // Cape, by 5, is brought at once, and the first row by harbours' numbers stays there.
            answers(UNDER_WAY, "lettersAt(5, " + i + ")", 0);
            answers(NO_SEA, "lettersAt(5, " + i + ")", 0);
        }
        // In isle, with nothing left to bring: the first row of those he can sail.
        Scene idle = new Scene("nothing to bring", Check.EXAMPLE, "sail(1)", "sail(2)", "sail(2)", "sail(2)", "sail(2)");
        answers(idle, "letters(5)", 0);
        answers(idle, "lettersAt(1, 0)", 1);
        bounds(idle, "lettersAt(5, #)", 0, 1, 4, 0, NONE_SUCH);
        answers(idle, "lettersAt(5, 1)", 0);
    }

    /** "each to its harbour at the landing told, or ahead of it"; not by being where he is NOW. */
    private void lettersWhileItMatters() {
        Scene begun = new Scene("small", SMALL);
        answers(begun, "letters(0)", 0);
        answers(begun, "letters(1)", 1);
        answers(begun, "lettersAt(1, 0)", 0);
        answers(begun, "letters(2)", 2);
        answers(begun, "lettersAt(2, 0)", 0);
        answers(begun, "lettersAt(2, 1)", 1);
        Scene missed = new Scene("missed h", SMALL, "sail(1)");
        answers(missed, "letters(5)", 0);
        answers(missed, "lost()", 1);
        Scene four = new Scene("landing 4", SMALL, "sail(0)", "sail(0)", "sail(0)", "sail(0)");
        answers(four, "letters(1)", 1);
        answers(four, "lettersAt(1, 0)", 1);
        answers(four, "lost()", 0);
        Scene five = new Scene("landing 5", SMALL, "sail(0)", "sail(0)", "sail(0)", "sail(0)", "sail(0)");
        answers(five, "letters(5)", 0);
        answers(five, "lettersAt(5, 0)", 0);
        answers(five, "lost()", 2);
    }

    /** All six letters at once, and none at all. */
    private void everyLetter() {
        String six = APART + ";letter h by 1;letter h by 1;letter h by 5;letter h by 1;letter h by 1;letter h by 1";
        Scene here = new Scene("six letters here", six);
        bounds(here, "letters(#)", 0, 0, 5, 6, NUMBER);
        answers(here, "letters(1)", 6);
        answers(here, "lost()", 0);
        Scene brought = new Scene("six letters brought", six, "sail(0)");
        answers(brought, "letters(5)", 0);
        answers(brought, "lost()", 0);
        Scene none = new Scene("no letters", APART);
        answers(none, "letters(5)", 0);
        answers(none, "lost()", 0);
        Scene there = new Scene("six letters where no sea goes", six.replace("letter h", "letter g"));
        answers(there, "letters(5)", 0);
        answers(there, "lost()", 63);
    }

    /** lost: "(all not brought, if he is FREED). NONE: 1 (no OATH)." */
    private void promise25() {
        answers(TOLD, "lost()", 0);
        answers(UNDER_WAY, "lost()", 0);
        answers(FREED, "lost()", 2);
        answers(new Scene("not FREED", SMALL, "sail(0)", "sail(0)"), "lost()", 0);
        answers(new Scene("FREED at once", SMALL, "sail(1)", "sail(0)", "court(0)"), "lost()", 1);
        answers(LAST, "lost()", 0);
        answers(FULL, "lost()", 0);
        answers(FULL_LATER, "lost()", 0);
        // At landing 4 only one harbour more can be come to in time, each by itself; at landing 5 none.
        answers(new Scene("full, at 4", FULL_TEXT, (THREE_SAILS + ",sail(0)").split(",")), "lost()", 0);
        answers(new Scene("full, at 4 in b", FULL_TEXT, (THREE_SAILS + ",sail(1)").split(",")), "lost()", 8 + 16);
        answers(new Scene("full, at 5", FULL_TEXT, (THREE_SAILS + ",sail(0),sail(0)").split(",")), "lost()", 62);
    }

    /** soonest: "-2 (or, if he is FREED). NONE: 1." */
    private void promise26() {
        bounds(TOLD, "soonest(#)", 0, 1, 2, 2, NONE_SUCH);
        bounds(UNDER_WAY, "soonest(#)", 0, 4, 2, 4, NONE_SUCH);
        answers(UNDER_WAY, "soonest(1)", 4);
        bounds(FREED, "soonest(#)", 0, -2, 1, -2, NONE_SUCH);
        bounds(FULL, "soonest(#)", 0, 1, 5, 1, NONE_SUCH);
        bounds(NO_SEA, "soonest(#)", 0, 2, 1, -2, NONE_SUCH);
        refusesAll(TOLD, -1, 1, "soonest(32)", "soonest(-32)");
        String chain = "oath years 7 trial 1;harbour a news 0 worth 0;harbour b news 0 worth 0;harbour c news 0 worth 0;"
            + "harbour d news 0 worth 0;harbour e news 0 worth 0;harbour f news 0 worth 0;sea a b;sea b c;sea c d;sea d e;sea e f;"
            + "woman w plain in a heart 1 born 1";
        int[] first = {1, 1, 2, 3, 4, 5};
        int[] fromB = {2, 2, 2, 3, 4, 5};
        for (int h = 0; h < 6; h++) {
            answers(new Scene("a chain", chain), "soonest(" + h + ")", first[h]);
            answers(new Scene("a chain, from b", chain, "sail(1)"), "soonest(" + h + ")", fromB[h]);
        }
    }

    /** bells: one harbour, no seas, a harbour between which and all there is one; of like ones the least bits. */
    private void promise27() {
        String six = "oath years 7 trial 1;harbour a news 0 worth 0;harbour b news 0 worth 0;harbour c news 0 worth 0;"
            + "harbour d news 0 worth 0;harbour e news 0 worth 0;harbour f news 0 worth 0;woman w plain in a heart 1 born 1";
        answers(new Scene("one harbour", "oath years 7 trial 1;harbour a news 0 worth 0;woman w plain in a heart 1 born 1"), "bells()", 1);
        answers(new Scene("six apart", six), "bells()", 63);
        answers(new Scene("one pair", six + ";sea e f"), "bells()", 1 + 2 + 4 + 8 + 16);
        answers(new Scene("the last has all", six + ";sea f a;sea b f;sea f c;sea d f;sea f e"), "bells()", 32);
        answers(new Scene("a line", six + ";sea a b;sea b c;sea c d;sea d e;sea e f"), "bells()", 2 + 16);
        answers(new Scene("all in a ring", six + ";sea a b;sea b c;sea c d;sea d e;sea e f;sea f a"), "bells()", 1 + 8);
        answers(NO_SEA, "bells()", 3);
        answers(TOLD, "bells()", 2);
        answers(FULL, "bells()", 1);
        answers(FREED, "bells()", 1);
        answers(LAST, "bells()", 1);
    }

    /** Nothing is left of a question in the next one: from many to few, refused ones between, from another NOW. */
    private void oneBehindTheOther() {
        run(UNDER_WAY.make(), "routes(3) = 1", "routes(2) = 4", "routes(2) = 4", "routes(1) = 3", "routes(4) = -1 ! 2", "routes(3) = 1 ! 0",
            "route(2, false) = 123", "route(1, false) = 9", "route(3, true) = 250", "mean(3, false) = 19", "mean(1, false) = 9",
            "routeAt(3, 2) = 3", "routeAt(1, 0) = 2", "routeAt(1, 1) = -1 ! 1", "sail(1) = 4", "sail(1) = 5", "sail(1) = 6", "routes(1) = 0",
            "route(1, true) = 1", "mean(1, false) = 0", "routeAt(1, 0) = -1 ! 6", "undo() = 1", "routes(1) = 2", "routeAt(1, 0) = 2");
        run(TOLD.make(), "letters(5) = 3", "letters(1) = 1", "letters(4) = 3", "letters(0) = 0", "lettersAt(4, 1) = 2", "lettersAt(1, 0) = 0",
            "letters(2) = 2", "lettersAt(2, 0) = 1", "letters(6) = -1 ! 2", "letters(2) = 2 ! 0", "sail(1) = 1", "letters(5) = 2",
            "lettersAt(5, 0) = 2", "sail(1) = 2", "letters(5) = 1", "lettersAt(5, 0) = 0", "undo() = 1", "undo() = 1", "letters(5) = 3",
            "lettersAt(5, 0) = 1");
        run(FULL_LATER.make(), "routes(3) = 120", "routes(3) = 120", "routes(1) = 6", "letters(5) = 2", "letters(2) = 2", "letters(1) = 1");
    }
}
