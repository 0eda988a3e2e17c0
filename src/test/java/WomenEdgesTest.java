/** Promises 6 to 18 at their bounds: harbours and women. */
public final class WomenEdgesTest extends Edges {
    private static final Refusal NO_AGE_SUCH = new Refusal(-1000, 1);
    private static final Refusal NO_AGE_THEN = new Refusal(-1000, 2);

    /** By 9 years: a is 16 at landing 2, b 15; c is 40 at landing 5, d 41. */
    private static final Scene AGES = new Scene("ages", "oath years 9 trial 1;harbour h news 0 worth 0;"
        + "woman a proud in h heart 9 born 2;woman b proud in h heart 9 born 3;woman c proud in h heart 9 born 5;"
        + "woman d proud in h heart 9 born 4;woman e proud in h heart 9 born 60");

    private static final Scene KINDS = new Scene("kinds", "oath years 5 trial 1;harbour x news 0 worth 99;"
        + "harbour y news 100 worth 99;harbour z news 1 worth 1;woman a plain in z heart 1 born 0;woman b plain in y heart 99 born 0;"
        + "woman c proud in y heart 99 born 0;woman d sold in y heart 97 born 0;woman e sold in x heart 50 born 0;"
        + "woman f half in x heart 99 born 0;woman g half in x heart 1 born 0;woman i half in x heart 2 born 0");

    private static final Scene RIVALS = new Scene("rivals", "oath years 5 trial 2;harbour x news 0 worth 1;harbour y news 0 worth 2;"
        + "woman a sold in x heart 0 born 0;woman b sold in y heart 0 born 0;woman c plain in x heart 99 born 0;"
        + "woman d sold in x heart 99 born 0;woman e proud in x heart 99 born 0;woman f proud in x heart 1 born 0;"
        + "woman g proud in x heart 99 born 0;woman i proud in x heart 99 born 0;rival d odds 99;rival c odds 0;rival e odds 1;"
        + "rival e odds 1;rival f odds 1;rival g odds 50;rival g odds 1;rival i odds 1");

    /** Harbours one behind the other. */
    private static final String CHAIN = "oath years 7 trial 1;harbour a news 0 worth 0;harbour b news 0 worth 0;harbour c news 0 worth 0;"
        + "harbour d news 0 worth 0;harbour e news 0 worth 0;harbour f news 0 worth 0;sea f e;sea e d;sea c b;sea b a;"
        + "woman w plain in a heart 1 born 1";

    private WomenEdgesTest() {
        super("WomenEdgesTest");
    }

    public static void main(String[] args) {
        WomenEdgesTest t = new WomenEdgesTest();
        t.promise6();
        t.promise7();
        t.promise8();
        t.promise9();
        t.promise9OfAge();
        t.promise9Kinds();
        t.promise9Rivals();
        t.promise10();
        t.promise11();
        t.promise12();
        t.promise13();
        t.promise14();
        t.promise15();
        t.promise16();
        t.promise17();
        t.promise18();
        t.check.end();
    }

    /** harbour: h, what; NONE: 1. */
    private void promise6() {
        bounds(TOLD, "harbour(#, 1)", 0, 40, 2, 10, NONE_SUCH);
        bounds(FULL, "harbour(#, 2)", 0, 62, 5, 19, NONE_SUCH);
        bounds(TOLD, "harbour(0, #)", 0, 0, 3, 1, NONE_SUCH);
        bounds(UNDER_WAY, "harbour(2, #)", 0, 100, 3, 8, NONE_SUCH);
        refusesAll(TOLD, -1, 1, "harbour(3, 4)", "harbour(32, 0)", "harbour(-32, 0)", "harbour(0, 32)");
        int[] seas = {62, 37, 11, 21, 41, 19};
        int[] women = {53, 74, 0, 0, 0, 128};
        for (int h = 0; h < 6; h++) {
            answers(FULL, "harbour(" + h + ", 2)", seas[h]);
            answers(FULL, "harbour(" + h + ", 3)", women[h]);
        }
        answers(FULL, "harbour(0, 0)", 0);
        answers(FULL, "harbour(1, 0)", 100);
        answers(FULL, "harbour(0, 1)", 99);
        answers(FULL, "harbour(1, 1)", 0);
        answers(AGES, "harbour(0, 2)", 0);
        answers(AGES, "harbour(0, 3)", 31);
        answers(FREED, "harbour(1, 2)", 1);
    }

    /** woman: w, what; NONE: 1. */
    private void promise7() {
        bounds(TOLD, "woman(#, 2)", 0, 60, 3, 80, NONE_SUCH);
        bounds(FULL, "woman(#, 1)", 0, 0, 7, 5, NONE_SUCH);
        bounds(TOLD, "woman(2, #)", 0, 2, 5, 0, NONE_SUCH);
        bounds(UNDER_WAY, "woman(1, #)", 0, 1, 5, 1, NONE_SUCH);
        refusesAll(TOLD, -1, 1, "woman(4, 6)", "woman(8, 0)", "woman(32, 0)", "woman(-32, 0)", "woman(0, 32)");
        int[][] all = {{1, 0, 99, 0, 0}, {0, 1, 99, 60, 0}, {2, 0, 0, 0, 0}, {3, 1, 99, 0, 0}, {1, 0, 0, 60, 0}, {0, 0, 99, 0, 8},
            {2, 1, 99, 0, 0}, {1, 5, 1, 0, 0}};
        for (int w = 0; w < 8; w++) {
            for (int what = 0; what < 5; what++) {
                answers(FULL, "woman(" + w + ", " + what + ")", all[w][what]);
            }
        }
        int[] tried = {0, 1, 0, 0};
        for (int w = 0; w < 4; w++) {
            answers(UNDER_WAY, "woman(" + w + ", 5)", tried[w]);
        }
        answers(FREED, "woman(0, 5)", 1);
        answers(LAST, "woman(0, 5)", 0);
    }

    /** age: "at a landing (0 .. 30); may be below 0. -1,000: 1; 2." */
    private void promise8() {
        bounds(TOLD, "age(0, #)", 0, 0, 30, 210, NO_AGE_THEN);
        bounds(FULL, "age(1, #)", 0, -60, 30, 90, NO_AGE_THEN);
        bounds(AGES, "age(0, #)", 0, -2, 30, 268, NO_AGE_THEN);
        bounds(TOLD, "age(#, 1)", 0, 7, 3, 2, NO_AGE_SUCH);
        refusesAll(TOLD, -1000, 1, "age(4, 31)", "age(-1, -1)", "age(MIN, MAX)");
        answers(TOLD, "age(2, 1)", 0);
        answers(TOLD, "age(2, 0)", -7);
        answers(FREED, "age(0, 2)", 16);
        answers(new Scene("born 1", SMALL.replace("born 0", "born 1")), "age(0, 0)", -1);
    }

    /** love: "(whether TRIED or not). NONE: 1; 2." */
    private void promise9() {
        bounds(TOLD, "love(0, #)", 0, 0, 30, 0, NUMBER);
        bounds(TOLD, "love(#, 3)", 0, 30, 3, 20, NONE_SUCH);
        bounds(FULL, "love(#, 4)", 0, 99, 7, 1, NONE_SUCH);
        refusesAll(TOLD, -1, 1, "love(4, 31)", "love(-1, -1)", "love(32, 3)");
        answers(UNDER_WAY, "love(1, 3)", 30);
        answers(FREED, "love(0, 2)", 99);
        answers(LAST, "love(0, 30)", 0);
        int[] full = {99, 0, 49, 24, 0, 49, 49, 1};
        for (int w = 0; w < 8; w++) {
            answers(FULL, "love(" + w + ", 4)", full[w]);
        }
    }

    /** "she is OF AGE from 16 to 40", "0 if she isn't OF AGE". */
    private void promise9OfAge() {
        answers(AGES, "love(0, 2)", 9);
        answers(AGES, "love(1, 2)", 0);
        answers(AGES, "love(2, 5)", 9);
        answers(AGES, "love(3, 5)", 0);
        answers(AGES, "love(0, 0)", 0);
        answers(AGES, "love(4, 0)", 0);
        answers(AGES, "love(4, 9)", 9);
        answers(AGES, "love(4, 11)", 9);
        answers(AGES, "love(4, 12)", 0);
    }

    private void promise9Kinds() {
        int[] due = {0, 49, 99, 49, 50, 49, 0, 1};
        for (int w = 0; w < 8; w++) {
            answers(KINDS, "love(" + w + ", 4)", due[w]);
            answers(KINDS, "love(" + w + ", 9)", 0);
        }
    }

    /** "by each rival told, one behind the other, times (100 less odds) by 100, downwards"; odds 0 and 99. */
    private void promise9Rivals() {
        int[] due = {0, 1, 99, 0, 97, 0, 48, 98};
        int[] alone = {0, 1, 99, 99, 99, 1, 99, 99};
        for (int w = 0; w < 8; w++) {
            answers(RIVALS, "love(" + w + ", 4)", due[w]);
            answers(RIVALS, "alone(" + w + ", 4)", alone[w]);
        }
        // In the other order, and by both at once, it would be 49.
        Scene turned = new Scene("rivals turned", "oath years 5 trial 1;harbour x news 0 worth 0;woman a proud in x heart 99 born 0;"
            + "woman b proud in x heart 99 born 0;rival a odds 1;rival b odds 50;rival a odds 50;rival b odds 1");
        answers(turned, "love(0, 4)", 49);
        answers(turned, "love(1, 4)", 48);
    }

    /** isTrue: "in lowest terms (0 by 1). -1: 1; 2." */
    private void promise10() {
        for (String side : new String[] {"true", "false"}) {
            long none = side.equals("true") ? 1 : 0;
            bounds(TOLD, "isTrue(0, #, " + side + ")", 0, none, 30, none, NUMBER);
            bounds(TOLD, "isTrue(#, 0, " + side + ")", 0, none, 3, none, NONE_SUCH);
            refusesAll(TOLD, -1, 1, "isTrue(4, 31, " + side + ")", "isTrue(-1, -1, " + side + ")");
        }
        // On three days: 99, 0 and 1 in a hundred; on two days 48 (144/625); on one 50.
        fraction(FULL, "isTrue(0, 4", 970299, 1000000);
        fraction(FULL, "isTrue(1, 4", 0, 1);
        fraction(FULL, "isTrue(4, 16", 0, 1);
        fraction(FULL, "isTrue(7, 4", 1, 1000000);
        fraction(RIVALS, "isTrue(6, 4", 144, 625);
        fraction(RIVALS, "isTrue(2, 4", 9801, 10000);
        fraction(KINDS, "isTrue(4, 4", 1, 2);
        fraction(UNDER_WAY, "isTrue(1, 3", 3, 10);
        fraction(FREED, "isTrue(0, 2", 99, 100);
    }

    private void fraction(Scene scene, String call, long upper, long lower) {
        answers(scene, call + ", false)", upper);
        answers(scene, call + ", true)", lower);
    }

    /** bestLanding: "The first landing (0 .. 30) ..; -2 it never is above 0. NONE: 1." */
    private void promise11() {
        bounds(TOLD, "bestLanding(#)", 0, 3, 3, 3, NONE_SUCH);
        bounds(FULL, "bestLanding(#)", 0, 4, 7, 4, NONE_SUCH);
        answers(FULL, "bestLanding(1)", 16);
        answers(FULL, "bestLanding(4)", -2);
        answers(RIVALS, "bestLanding(3)", -2);
        answers(KINDS, "bestLanding(0)", -2);
        answers(AGES, "bestLanding(0)", 2);
        answers(AGES, "bestLanding(1)", 3);
        answers(UNDER_WAY, "bestLanding(1)", 3);
        answers(FREED, "bestLanding(0)", 2);
    }

    /** ofAge: landings 0 .. 30 as bits. NONE: 1. */
    private void promise12() {
        bounds(TOLD, "ofAge(#)", 0, 56, 3, 120, NONE_SUCH);
        int[] bits = {4 + 8 + 16, 8 + 16, 8 + 16 + 32, 8 + 16, 512 + 1024 + 2048};
        for (int w = 0; w < 5; w++) {
            answers(AGES, "ofAge(" + w + ")", bits[w]);
        }
        answers(FULL, "ofAge(0)", 496);
        answers(FULL, "ofAge(1)", 31 << 16);
        answers(FULL, "ofAge(4)", 31 << 16);
        answers(FREED, "ofAge(0)", 4 + 8 + 16 + 32);
    }

    /** alone: "LOVE, had she no rivals. NONE: 1; 2." */
    private void promise13() {
        bounds(TOLD, "alone(1, #)", 0, 0, 30, 0, NUMBER);
        bounds(TOLD, "alone(#, 3)", 0, 60, 3, 20, NONE_SUCH);
        refusesAll(TOLD, -1, 1, "alone(4, 31)", "alone(-1, -1)");
        answers(TOLD, "alone(1, 3)", 50);
        answers(TOLD, "alone(1, 2)", 0);
        answers(FULL, "alone(5, 4)", 99);
        answers(FULL, "alone(5, 9)", 0);
        answers(UNDER_WAY, "alone(1, 3)", 50);
        answers(FREED, "alone(0, 2)", 99);
    }

    /** present: women whose LOVE is above 0, as bits. NONE: 1 (no OATH); 2. */
    private void promise14() {
        bounds(TOLD, "present(#)", 0, 0, 30, 0, NUMBER);
        bounds(FULL, "present(#)", 0, 0, 30, 0, NUMBER);
        int[] full = {0, 237, 237, 0, 0, 2, 2, 0};
        int[] landing = {3, 4, 8, 9, 15, 16, 20, 21};
        for (int i = 0; i < full.length; i++) {
            answers(FULL, "present(" + landing[i] + ")", full[i]);
        }
        Scene all = new Scene("all eight", FULL_TEXT.replace("born60", "born0").replace("heart0", "heart2"));
        answers(all, "present(4)", 255);
        answers(UNDER_WAY, "present(3)", 11);
        answers(FREED, "present(2)", 1);
        answers(FREED, "present(6)", 0);
    }

    /** belle: "the first such; -2 there is none above 0. NONE: 1; 2." */
    private void promise15() {
        bounds(TOLD, "belle(1, #)", 0, -2, 30, -2, NUMBER);
        bounds(TOLD, "belle(#, 3)", 0, 0, 2, 3, NONE_SUCH);
        bounds(FULL, "belle(#, 4)", 0, 0, 5, 7, NONE_SUCH);
        refusesAll(TOLD, -1, 1, "belle(3, 31)", "belle(-1, -1)");
        int[] full = {0, 6, -2, -2, -2, 7};
        for (int h = 0; h < 6; h++) {
            answers(FULL, "belle(" + h + ", 4)", full[h]);
        }
        answers(FULL, "belle(0, 16)", -2);
        answers(FULL, "belle(1, 16)", 1);
        answers(UNDER_WAY, "belle(1, 3)", 1);
        answers(AGES, "belle(0, 3)", 0);
        answers(AGES, "belle(0, 5)", 2);
        answers(FREED, "belle(0, 2)", 0);
    }

    /** sevens: "(0 from itself); -2. NONE: 1." */
    private void promise16() {
        bounds(TOLD, "sevens(#, 0)", 0, 0, 2, 2, NONE_SUCH);
        bounds(TOLD, "sevens(0, #)", 0, 0, 2, 2, NONE_SUCH);
        bounds(FULL, "sevens(#, 3)", 0, 1, 5, 2, NONE_SUCH);
        refusesAll(TOLD, -1, 1, "sevens(3, 3)", "sevens(-1, -1)", "sevens(32, 0)", "sevens(0, 32)", "sevens(-32, -32)");
        Scene whole = new Scene("a chain", CHAIN + ";sea d c");
        Scene broken = new Scene("a broken chain", CHAIN);
        for (int h = 0; h < 6; h++) {
            for (int g = 0; g < 6; g++) {
                String call = "sevens(" + h + ", " + g + ")";
                answers(whole, call, Math.abs(h - g));
                answers(broken, call, h / 3 == g / 3 ? Math.abs(h - g) : -2);
            }
        }
        answers(FREED, "sevens(0, 1)", 1);
        answers(AGES, "sevens(0, 0)", 0);
    }

    /** byYears: "(5 .. 9). NONE: 1; 2." */
    private void promise17() {
        bounds(TOLD, "byYears(0, 3, #)", 5, 0, 9, 30, NUMBER);
        bounds(TOLD, "byYears(0, 8, #)", 5, 30, 9, 0, NUMBER);
        bounds(TOLD, "byYears(0, #, 5)", 0, 0, 30, 0, NUMBER);
        bounds(TOLD, "byYears(#, 4, 9)", 0, 30, 3, 20, NONE_SUCH);
        refusesAll(TOLD, -1, 1, "byYears(4, 31, 4)", "byYears(-1, 0, 10)", "byYears(4, 31, 5)");
        refusesAll(TOLD, -1, 2, "byYears(0, 31, 4)", "byYears(0, -1, 10)");
        // Born in year 0: of 16 at landing 2 by 8, of 40 at landing 5 by 8 and at landing 8 by 5.
        answers(FREED, "byYears(0, 2, 7)", 0);
        answers(FREED, "byYears(0, 2, 8)", 99);
        answers(FREED, "byYears(0, 5, 8)", 99);
        answers(FREED, "byYears(0, 5, 9)", 0);
        answers(FREED, "byYears(0, 8, 5)", 99);
        answers(UNDER_WAY, "byYears(1, 3, 6)", 30);
    }

    /** bestYears: "(5 .. 9) .. the first such. NONE: 1 (no OATH); 2." */
    private void promise18() {
        bounds(TOLD, "bestYears(#)", 0, 5, 30, 5, NUMBER);
        // 16 at landing 2: by 8 years if born in year 0 (9 is like it), by 9 alone if born in year 1.
        answers(FREED, "bestYears(2)", 8);
        answers(new Scene("born 1", SMALL.replace("born 0", "born 1")), "bestYears(2)", 9);
        // At landing 8 the last is by 5 years, at 9 none is.
        answers(FREED, "bestYears(8)", 5);
        answers(FREED, "bestYears(9)", 5);
        answers(TOLD, "bestYears(3)", 8);
        answers(UNDER_WAY, "bestYears(3)", 8);
        // All women of a full OATH: at landing 2 by 8 years, at landing 3 by 6 (of 18), at landing 4 by 5.
        bounds(FULL, "bestYears(#)", 0, 5, 30, 5, NUMBER);
        answers(FULL, "bestYears(2)", 8);
        answers(FULL, "bestYears(3)", 6);
        answers(FULL, "bestYears(4)", 5);
        // At landing 9 by 9 years (81) one woman of 49, by 5 to 8 nobody.
        answers(FULL, "bestYears(9)", 9);
        // The sum counts: at landing 5 by 9 years two women of 30 each, by fewer one of 50.
        answers(new Scene("two of 30", "oath years 5 trial 1;harbour h news 0 worth 0;woman a proud in h heart 50 born 0;"
            + "woman b proud in h heart 30 born 25;woman c proud in h heart 30 born 25"), "bestYears(5)", 9);
    }
}
