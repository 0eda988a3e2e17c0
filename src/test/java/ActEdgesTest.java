/** Promises 44 to 52 at their bounds: acts, undoing, images, and what is told of them. */
public final class ActEdgesTest extends Edges {
    private static final Refusal NOT_THERE = new Refusal(0, 1);
    private static final Refusal NO_SEED = new Refusal(0, 2);
    private static final Scene[] ALL = {NO_OATH, FAULTED, TOLD, UNDER_WAY, FREED, LAST, FULL};

    /** As small, but with a harbour to which no sea goes and a woman more in h. */
    private static final String WIDER = SMALL + ";harbour f news 0 worth 0;woman b proud in h heart 99 born 0";

    private ActEdgesTest() {
        super("ActEdgesTest");
    }

    public static void main(String[] args) {
        ActEdgesTest t = new ActEdgesTest();
        t.promise44();
        t.sailToLanding30();
        t.lettersWhoseLandingsAreNotOver();
        t.promise45();
        t.drawsAtTheEdge();
        t.seedsThatWrap();
        t.daysOfTrial();
        t.promise46();
        t.promise47();
        t.sixteenAreKept();
        t.promise48();
        t.promise49();
        t.promise50();
        t.promise51();
        t.promise52();
        t.check.end();
    }

    /** sail: "NONE: 1; 5 (he is FREED, he can't be there); 3 (landing 30)." */
    private void promise44() {
        outside(TOLD, "sail(#)", 0, 2, NONE_SUCH);
        outside(FULL, "sail(#)", 0, 5, NONE_SUCH);
        outside(FREED, "sail(#)", 0, 1, NONE_SUCH);
        outside(LAST, "sail(#)", 0, 1, NONE_SUCH);
        refusesAll(TOLD, -1, 1, "sail(32)", "sail(-32)");
        refuses(TOLD, "sail(2)", -1, 5);
        refusesAll(FREED, -1, 5, "sail(0)", "sail(1)");
        refusesAll(LAST, -1, 3, "sail(0)", "sail(1)");
        refuses(new Scene("wider", WIDER), "sail(2)", -1, 5);
        for (int h = 0; h <= 2; h++) {
            SworeCaptain x = UNDER_WAY.make();
            run(x, "sail(" + h + ") = 4 ! 0", "size(9) = 4", "size(10) = " + h, "size(11) = -2", "size(12) = 9", "size(13) = 5", "size(14) = 2",
                "size(15) = 100", "woman(1, 5) = 1", "undo() = 1", "size(9) = 3", "size(10) = 1", "size(13) = 4");
        }
        SworeCaptain x = TOLD.make();
        run(x, "sail(0) = 1 ! 0", "size(10) = 0", "sail(1) = 2 ! 0", "sail(2) = 3 ! 0", "sail(0) = -1 ! 5", "size(9) = 3", "size(10) = 2");
    }

    /** "up to landing 30": landing 30 is come to, 31 isn't; 1 and 5 are told ahead of 3. */
    private void sailToLanding30() {
        SworeCaptain x = Check.told(WIDER);
        for (int i = 1; i <= 29; i++) {
            check.due(x, "sail", x.sail(i % 2), i, 0);
        }
        run(x, "sail(0) = 30 ! 0", "sail(0) = -1 ! 3", "sail(1) = -1 ! 3", "sail(2) = -1 ! 5", "sail(3) = -1 ! 1", "sail(-1) = -1 ! 1",
            "size(9) = 30", "size(10) = 0", "size(13) = 16", "court(0) = 0 ! 0", "size(12) = 74", "size(13) = 16", "undo() = 1 ! 0",
            "size(12) = 0", "undo() = 1", "size(9) = 29", "sail(1) = 30 ! 0", "sail(1) = -1 ! 3", "image() = 0", "back(0) = 1",
            "sail(1) = -1 ! 3");
    }

    /** "letters to that harbour whose landings told aren't over are brought". */
    private void lettersWhoseLandingsAreNotOver() {
        String text = "oath years 7 trial 1;harbour a news 0 worth 0;harbour b news 0 worth 0;sea a b;woman w plain in a heart 1 born 1;"
            + "letter b by 1;letter b by 2;letter b by 3;letter b by 4;letter b by 5;letter a by 1";
        for (int landing = 1; landing <= 6; landing++) {
            SworeCaptain x = Check.told(text);
            // By staying in a, from landing 1 on, its letter is brought, but for the row that goes to b at once.
            for (int i = 1; i < landing; i++) {
                x.sail(0);
            }
            check.due(x, "sail to b", x.sail(1), landing, 0);
            int i = 0;
            for (int letter = landing - 1; letter < 5; letter++) {
                check.dueLed(x, i, letter);
                i++;
            }
            if (landing > 1) {
                check.dueLed(x, i, 5);
                i++;
            }
            check.dueLed(x, i, THROWS);
        }
    }

    /** court: "1 he is FREED, 0 he isn't. NONE: 1; 5 (FREED already, not in her harbour, TRIED already)." */
    private void promise45() {
        outside(TOLD, "court(#)", 0, 3, NONE_SUCH);
        outside(FULL, "court(#)", 0, 7, NONE_SUCH);
        outside(FREED, "court(#)", 0, 0, NONE_SUCH);
        outside(LAST, "court(#)", 0, 0, NONE_SUCH);
        refusesAll(TOLD, -1, 1, "court(8)", "court(32)", "court(-32)");
        refusesAll(TOLD, -1, 5, "court(1)", "court(2)", "court(3)");
        refusesAll(UNDER_WAY, -1, 5, "court(0)", "court(1)", "court(3)");
        refuses(FREED, "court(0)", -1, 5);
        refuses(new Scene("another one FREED him", WIDER, "sail(0)", "sail(0)", "court(0)"), "court(1)", -1, 5);
        refuses(new Scene("TRIED in vain", WIDER, "court(0)"), "court(0)", -1, 5);
        SworeCaptain x = new Scene("wider", WIDER, "court(0)").make();
        run(x, "court(1) = 0 ! 0", "size(13) = 2", "size(12) = 5624", "woman(0, 5) = 1", "woman(1, 5) = 1", "size(11) = -2", "size(9) = 0",
            "undo() = 1", "woman(0, 5) = 1", "woman(1, 5) = 0", "size(12) = 74");
        // Of all in the full one those in a may be courted at once, the others not.
        int[] there = {1, 0, 1, 0, 1, 1, 0, 0};
        for (int w = 0; w < 8; w++) {
            SworeCaptain y = FULL.make();
            check.due(y, "court(" + w + ")", y.court(w), there[w] - 1, there[w] == 1 ? 0 : 5);
        }
        SworeCaptain z = Check.told(WIDER);
        run(z, "sail(0) = 1", "sail(0) = 2", "court(1) = 1 ! 0", "size(11) = 1", "size(9) = 2", "size(10) = 0", "size(13) = 3");
    }

    /** "a DRAW mod 100 below LOVE": the last below it and the first that isn't. */
    private void drawsAtTheEdge() {
        // LOVE, a SEED, the next one of it, and whether he is FREED.
        int[][] draws = {{99, 41944, 98, 1}, {99, 21846, 99, 0}, {99, 42816, 65498, 1}, {99, 22718, 65499, 0}, {1, 45438, 0, 1},
            {1, 25340, 1, 0}, {0, 45438, 0, 0}, {75, 0, 74, 1}, {74, 0, 74, 0}, {60, 39322, 59, 1}, {60, 19224, 60, 0}};
        for (int[] d : draws) {
            SworeCaptain x = Check.told(SMALL.replace("heart 99", "heart " + d[0]));
            run(x, "sail(0) = 1", "sail(0) = 2", "seed(" + d[1] + ") = 1 ! 0", "court(0) = " + d[3] + " ! 0", "size(12) = " + d[2],
                "size(11) = " + (d[3] == 1 ? 0 : -2), "woman(0, 5) = 1", "size(13) = 3");
        }
    }

    /** "SEED becomes (75 times SEED and 74) mod 65,537". */
    private void seedsThatWrap() {
        int[][] next = {{0, 74}, {1, 149}, {872, 65474}, {873, 12}, {874, 87}, {45438, 0}, {20097, 65535}, {65535, 65461}, {65536, 65536}};
        for (int[] n : next) {
            SworeCaptain x = TOLD.make();
            run(x, "seed(" + n[0] + ") = 1", "size(12) = " + n[0], "court(0) = 0", "size(12) = " + n[1], "undo() = 1", "size(12) = " + n[0]);
        }
    }

    /** "on each day of the trial, till one isn't below it": 1 to 3 days. */
    private void daysOfTrial() {
        // LOVE 75, from SEED 0: 74, 24, 52; from 5,624: 52, 90; from 28,652: 90.
        int[][] due = {{1, 0, 1, 74}, {2, 0, 1, 5624}, {3, 0, 1, 28652}, {1, 5624, 1, 28652}, {2, 5624, 0, 51790}, {3, 5624, 0, 51790},
            {3, 74, 0, 51790}, {1, 28652, 0, 51790}, {3, 28652, 0, 51790}};
        for (int[] d : due) {
            SworeCaptain x = Check.told(SMALL.replace("heart 99", "heart 75").replace("trial 1", "trial " + d[0]));
            run(x, "sail(0) = 1", "sail(0) = 2", "seed(" + d[1] + ") = 1", "court(0) = " + d[2] + " ! 0", "size(12) = " + d[3]);
        }
    }

    /** seed: "(no ACT): true; false: 1 (no OATH); 2 (0 .. 65,536)." */
    private void promise46() {
        for (Scene scene : new Scene[] {TOLD, UNDER_WAY, FREED, LAST, FULL}) {
            outside(scene, "seed(#)", 0, 65536, NO_SEED);
            SworeCaptain x = scene.make();
            int acts = x.size(13);
            run(x, "seed(65536) = 1 ! 0", "size(12) = 65536", "size(13) = " + acts, "seed(65537) = 0 ! 2", "size(12) = 65536",
                "seed(0) = 1 ! 0", "size(12) = 0", "size(13) = " + acts, "seed(-1) = 0 ! 2", "size(12) = 0");
        }
    }

    /** undo: "all, SEED too, is as ahead of the latest"; "true; false: 6". */
    private void promise47() {
        for (Scene scene : new Scene[] {NO_OATH, FAULTED, TOLD, FULL}) {
            refuses(scene, "undo()", 0, 6);
        }
        refuses(new Scene("only SEED and images", SMALL, "seed(5)", "image()"), "undo()", 0, 6);
        refuses(new Scene("refused acts", SMALL, "sail(2)", "court(1)", "sail(-1)", "court(-1)"), "undo()", 0, 6);
        refuses(new Scene("all undone", SMALL, "sail(0)", "undo()"), "undo()", 0, 6);
        refuses(new Scene("gone back", SMALL, "image()", "sail(0)", "back(0)"), "undo()", 0, 6);
        run(FREED.make(), "size(13) = 3", "size(11) = 0", "undo() = 1 ! 0", "size(11) = -2", "size(12) = 0", "woman(0, 5) = 0", "size(9) = 2",
            "lost() = 0", "undo() = 1 ! 0", "size(9) = 1", "led(0) = 0", "undo() = 1 ! 0", "size(9) = 0", "led(0) = throws", "size(13) = 0",
            "size(14) = 1", "undo() = 0 ! 6");
        // SEED was 7 ahead of the first act, and was set to 9 behind the third.
        run(UNDER_WAY.make(), "size(12) = 9", "seed(11) = 1", "undo() = 1", "size(12) = 9", "size(9) = 2", "size(10) = 2", "led(1) = 1",
            "undo() = 1", "size(12) = 599", "size(9) = 1", "size(10) = 1", "led(1) = throws", "woman(1, 5) = 1", "undo() = 1", "size(12) = 7",
            "woman(1, 5) = 0", "undo() = 1", "size(12) = 7", "size(9) = 0", "size(10) = 0", "led(0) = throws", "undo() = 0 ! 6",
            "size(14) = 2");
    }

    /** "(16 are kept)": the sixteenth act back can be undone, the seventeenth can't; SAIL and COURT count alike. */
    private void sixteenAreKept() {
        for (int acts : new int[] {15, 16, 17, 30}) {
            SworeCaptain x = Check.told(SMALL);
            for (int i = 1; i <= acts; i++) {
                check.due("sail", x.sail(i % 2), i);
                check.due("acts that can be undone", x.size(13), Math.min(16, i));
            }
            for (int i = acts - 1; i >= Math.max(0, acts - 16); i--) {
                check.due(x, "undo() to landing " + i, x.undo(), true, 0);
                check.due("the landing", x.size(9), i);
                check.due("the harbour", x.size(10), i % 2);
            }
            check.due(x, "undo() of what isn't kept", x.undo(), false, 6);
            check.due("the landing stays", x.size(9), Math.max(0, acts - 16));
            check.due("the harbour stays", x.size(10), Math.max(0, acts - 16) % 2);
        }
        SworeCaptain x = Check.told(SMALL);
        run(x, "court(0) = 0");
        for (int i = 1; i <= 15; i++) {
            x.sail(0);
        }
        run(x, "size(13) = 16", "image() = 0", "sail(0) = 16", "size(13) = 16");
        for (int i = 15; i >= 0; i--) {
            run(x, "undo() = 1 ! 0", "size(9) = " + i);
        }
        // The first act, COURT, was the seventeenth back.
        run(x, "undo() = 0 ! 6", "woman(0, 5) = 1", "size(12) = 74", "size(14) = 1");
        // What was undone makes room again.
        for (int i = 1; i <= 16; i++) {
            run(x, "sail(1) = " + i, "size(13) = " + i);
        }
        run(x, "sail(1) = 17", "size(13) = 16");
    }

    /** image: "its number. NONE: 1 (no OATH); 3." Up to 3. */
    private void promise48() {
        refuses(LAST, "image()", -1, 3);
        refuses(new Scene("full of images", Check.EXAMPLE, "image()", "image()", "image()"), "image()", -1, 3);
        run(TOLD.make(), "image() = 0 ! 0", "size(14) = 1", "image() = 1 ! 0", "size(14) = 2", "image() = 2 ! 0", "size(14) = 3",
            "image() = -1 ! 3", "size(14) = 3", "back(2) = 1", "image() = -1 ! 3", "back(0) = 1", "size(14) = 3", "undo() = 0 ! 6",
            "image() = -1 ! 3", "oath(100) = 1", "size(14) = 0", "image() = 0 ! 0");
        run(FREED.make(), "image() = 1 ! 0", "size(13) = 3", "undo() = 1", "back(1) = 1", "size(11) = 0", "size(13) = 0");
        run(UNDER_WAY.make(), "image() = 2 ! 0", "size(13) = 4", "size(9) = 3", "size(12) = 9", "image() = -1 ! 3", "size(13) = 4");
    }

    /** back: "All is as by an IMAGE (all IMAGES stay): true; false: 1"; "gone back to one, nothing can be undone". */
    private void promise49() {
        for (Scene scene : new Scene[] {NO_OATH, FAULTED, TOLD, FULL}) {
            refusesAll(scene, 0, 1, "back(0)", "back(-1)", "back(MIN)", "back(MAX)");
        }
        outside(FREED, "back(#)", 0, 0, NOT_THERE);
        outside(UNDER_WAY, "back(#)", 0, 1, NOT_THERE);
        outside(LAST, "back(#)", 0, 2, NOT_THERE);
        run(UNDER_WAY.make(), "back(0) = 1 ! 0", "size(9) = 1", "size(10) = 1", "size(11) = -2", "size(12) = 7", "size(13) = 0", "size(14) = 2",
            "woman(1, 5) = 0", "led(0) = 0", "led(1) = throws", "undo() = 0 ! 6", "size(15) = 100", "back(1) = 1 ! 0", "size(9) = 2",
            "size(10) = 2", "size(12) = 599", "woman(1, 5) = 1", "led(1) = 1", "size(14) = 2", "sail(1) = 3", "undo() = 1 ! 0", "size(9) = 2",
            "undo() = 0 ! 6", "seed(1) = 1", "back(1) = 1 ! 0", "size(12) = 599");
        run(FREED.make(), "back(0) = 1 ! 0", "size(11) = -2", "size(9) = 0", "woman(0, 5) = 0", "lost() = 0", "sail(0) = 1 ! 0", "image() = 1",
            "sail(1) = 2", "back(1) = 1", "size(9) = 1", "back(0) = 1", "size(9) = 0", "undo() = 0 ! 6");
        run(LAST.make(), "back(2) = 1 ! 0", "size(9) = 2", "size(10) = 1", "back(0) = 1 ! 0", "size(9) = 1", "size(10) = 0", "back(1) = 1",
            "size(9) = 2", "size(14) = 3", "size(13) = 0");
    }

    /** led: "The i-th letter, by numbers as told, that was brought. NoSuchElementException if there is none such." */
    private void promise50() {
        for (Scene scene : ALL) {
            int trouble = scene == FAULTED ? 4 : 0;
            refusesAll(scene, THROWS, trouble, "led(-1)", "led(6)", "led(MIN)", "led(MAX)", "led(32)", "led(-32)");
        }
        for (Scene scene : new Scene[] {NO_OATH, FAULTED, TOLD, FULL}) {
            refuses(scene, "led(0)", THROWS, scene == FAULTED ? 4 : 0);
        }
        bounds(UNDER_WAY, "led(#)", 0, 0, 1, 1, new Refusal(THROWS, 0));
        bounds(FREED, "led(#)", 0, 0, 0, 0, new Refusal(THROWS, 0));
        bounds(LAST, "led(#)", 0, 0, 1, 1, new Refusal(THROWS, 0));
        Scene six = new Scene("six letters", SMALL.replace("letter h by 1;letter g by 5", "letter h by 1;letter h by 1;letter h by 1;"
            + "letter h by 1;letter h by 1;letter h by 1"), "sail(0)");
        bounds(six, "led(#)", 0, 0, 5, 5, new Refusal(THROWS, 0));
        // By numbers, not by when they were brought.
        SworeCaptain x = Check.told(SMALL.replace("letter h by 1", "letter h by 2"));
        run(x, "sail(1) = 1", "led(0) = 1", "led(1) = throws", "sail(0) = 2", "led(0) = 0", "led(1) = 1", "led(2) = throws");
    }

    /** size: "NONE for others; 0 for what there isn't." No number is told of it: TROUBLE stays. */
    private void promise51() {
        int[][] sizes = {{0, 0, 0, 0, 0, 0, 0, 0, 0, 0, 0, 0, 0, 0, 0, 100}, {0, 0, 0, 0, 0, 0, 0, 0, 0, 0, 0, 0, 0, 0, 0, 100},
            {7, 1, 3, 2, 4, 3, 3, 2, 2, 0, 0, -2, 0, 0, 0, 100}, {7, 1, 3, 2, 4, 3, 3, 2, 2, 3, 1, -2, 9, 4, 2, 100},
            {8, 1, 2, 1, 1, 0, 2, 1, 1, 2, 0, 0, 74, 3, 1, 100}, {8, 1, 2, 1, 1, 0, 2, 1, 1, 30, 0, -2, 0, 16, 3, 100},
            {5, 3, 6, 10, 8, 8, 6, 5, 4, 0, 0, -2, 0, 0, 0, 100}};
        for (int i = 0; i < ALL.length; i++) {
            int trouble = ALL[i] == FAULTED ? 4 : 0;
            for (int what = 0; what <= 15; what++) {
                SworeCaptain x = ALL[i].make();
                check.due(x, ALL[i] + ": size(" + what + ")", x.size(what), sizes[i][what], trouble);
            }
            outside(ALL[i], "size(#)", 0, 15, new Refusal(-1, trouble));
        }
        run(new SworeCaptain(), "size(15) = 0", "size(16) = -1 ! 0", "undo() = 0", "size(-1) = -1 ! 6", "size(0) = 0 ! 6");
    }

    /** trouble: 0 behind each call that may be refused and wasn't, whatever it was ahead of it; it asks nothing itself. */
    private void promise52() {
        String[] good = {"harbour(0, 0)", "woman(0, 0)", "age(0, 0)", "love(0, 0)", "isTrue(0, 0, true)", "bestLanding(0)", "ofAge(0)",
            "alone(0, 0)", "present(0)", "belle(0, 0)", "sevens(0, 0)", "byYears(0, 0, 5)", "bestYears(0)", "route(1, true)", "mean(1, true)",
            "routeAt(1, 0)", "routes(1)", "letters(0)", "lettersAt(1, 0)", "lost()", "soonest(0)", "bells()", "bid(0, 0, 0, true)", "rests(0)",
            "rest(0)", "part(0, 0, 0)", "service(0, 0)", "bestHand(0, 0)", "rows()", "could(0)", "surely(0)", "firstOf(0)", "ask()",
            "askLeaves()", "judge()", "life(0, 0)", "lifeBy(0, 0)", "lives(0, 1)", "sail(0)", "court(2)", "seed(0)", "undo()", "image()",
            "back(0)", "oath(100)"};
        String[] free = {"feed(0, 0, 0, 0, 0)", "fault()", "where()", "led(0)", "led(9)", "size(0)", "size(16)", "trouble()"};
        String[] ahead = {"woman(-1, 0)", "love(0, 31)", "court(1)"};
        int[] trouble = {1, 2, 5};
        for (int i = 0; i < ahead.length; i++) {
            for (String call : good) {
                SworeCaptain x = UNDER_WAY.make();
                run(x, ahead[i] + " = -1 ! " + trouble[i]);
                Call.of(call).on(x);
                check.due("trouble() behind " + call, x.trouble(), 0);
                check.due("trouble() again", x.trouble(), 0);
            }
            for (String call : free) {
                SworeCaptain x = UNDER_WAY.make();
                run(x, ahead[i] + " = -1 ! " + trouble[i]);
                Call.of(call).on(x);
                check.due("trouble() behind " + call, x.trouble(), trouble[i]);
            }
        }
        SworeCaptain x = LAST.make();
        run(x, "trouble() = 0", "image() = -1 ! 3", "trouble() = 3", "sail(0) = -1 ! 3", "size(9) = 30 ! 3", "back(3) = 0 ! 1",
            "seed(-1) = 0 ! 2", "routeAt(1, 0) = -1 ! 6", "oath(0) = -1 ! 4", "trouble() = 4", "feed(0, 0, 0, 0, 0) = 20 ! 4",
            "lost() = 0 ! 0");
    }
}
