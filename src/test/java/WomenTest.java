/** Promises 6 to 18: harbours and women. */
public final class WomenTest {
    private static final int MIN = Integer.MIN_VALUE;
    private static final int MAX = Integer.MAX_VALUE;

    private final Check check = new Check("WomenTest");
    private final SworeCaptain x = Check.told(Check.EXAMPLE);

    public static void main(String[] args) {
        WomenTest t = new WomenTest();
        t.withoutOath();
        t.harbours();
        t.women();
        t.ages();
        t.loves();
        t.trueOnes();
        t.landings();
        t.belles();
        t.distances();
        t.otherYears();
        t.check.end();
    }

    private void withoutOath() {
        SworeCaptain y = new SworeCaptain();
        check.due(y, "harbour", y.harbour(0, 0), -1, 1);
        check.due(y, "woman", y.woman(0, 0), -1, 1);
        check.due(y, "age", y.age(0, 0), -1000, 1);
        check.due(y, "love", y.love(0, 99), -1, 1);
        check.due(y, "isTrue", y.isTrue(0, 0, false), -1, 1);
        check.due(y, "bestLanding", y.bestLanding(0), -1, 1);
        check.due(y, "ofAge", y.ofAge(0), -1, 1);
        check.due(y, "alone", y.alone(0, 0), -1, 1);
        check.due(y, "present", y.present(99), -1, 1);
        check.due(y, "belle", y.belle(0, 0), -1, 1);
        check.due(y, "sevens", y.sevens(0, 0), -1, 1);
        check.due(y, "byYears", y.byYears(0, 0, 5), -1, 1);
        check.due(y, "bestYears", y.bestYears(99), -1, 1);
    }

    private void harbours() {
        int[][] want = {{0, 40, 2, 1}, {50, 90, 5, 6}, {100, 10, 2, 8}};
        for (int h = 0; h < 3; h++) {
            for (int what = 0; what < 4; what++) {
                check.due(x, "harbour(" + h + ", " + what + ")", x.harbour(h, what), want[h][what], 0);
            }
        }
        for (int wrong : new int[] {-1, 3, MIN, MAX, 32}) {
            check.due(x, "harbour(" + wrong + ", 0)", x.harbour(wrong, 0), -1, 1);
        }
        for (int wrong : new int[] {-1, 4, MIN, MAX}) {
            check.due(x, "harbour(0, " + wrong + ")", x.harbour(0, wrong), -1, 1);
        }
    }

    private void women() {
        int[][] want = {{0, 0, 60, 0, 1, 0}, {1, 1, 50, 2, 2, 0}, {2, 1, 20, 7, 0, 0}, {3, 2, 80, 5, 0, 0}};
        for (int w = 0; w < 4; w++) {
            for (int what = 0; what < 6; what++) {
                check.due(x, "woman(" + w + ", " + what + ")", x.woman(w, what), want[w][what], 0);
            }
        }
        for (int wrong : new int[] {-1, 4, MIN, MAX, 32}) {
            check.due(x, "woman(" + wrong + ", 0)", x.woman(wrong, 0), -1, 1);
        }
        for (int wrong : new int[] {-1, 6, MIN, MAX}) {
            check.due(x, "woman(0, " + wrong + ")", x.woman(0, wrong), -1, 1);
        }
        SworeCaptain y = Check.told(Check.EXAMPLE);
        y.court(0);
        check.due(y, "woman(0, 5), TRIED", y.woman(0, 5), 1, 0);
        check.due(y, "love(0, 3), TRIED", y.love(0, 3), 30, 0);
        check.due(y, "present(3), one TRIED", y.present(3), 11, 0);
        check.due(y, "belle(0, 3), TRIED", y.belle(0, 3), 0, 0);
    }

    private void ages() {
        check.due(x, "age(0, 0)", x.age(0, 0), 0, 0);
        check.due(x, "age(2, 0)", x.age(2, 0), -7, 0);
        check.due(x, "age(3, 30)", x.age(3, 30), 205, 0);
        check.due(x, "age(0, 31)", x.age(0, 31), -1000, 2);
        check.due(x, "age(0, -1)", x.age(0, -1), -1000, 2);
        check.due(x, "age(4, -1)", x.age(4, -1), -1000, 1);
        check.due(x, "age(-1, 0)", x.age(-1, 0), -1000, 1);
        // Ann is 14, 21, 28, 35, 42 at landings 2 to 6.
        check.due(x, "ofAge(0)", x.ofAge(0), 8 + 16 + 32, 0);
        check.due(x, "ofAge(4)", x.ofAge(4), -1, 1);
        check.due(x, "ofAge(-1)", x.ofAge(-1), -1, 1);
        // The edges: 16 at landing 2 by 8 years and born 0; 40 at landing 5.
        SworeCaptain y = Check.told("oath years 8 trial 1;harbour h news 0 worth 0;woman a plain in h heart 9 born 0;"
            + "woman b plain in h heart 9 born 1;woman c plain in h heart 9 born 60");
        check.due(y, "ofAge at 16 and 40", y.ofAge(0), 4 + 8 + 16 + 32, 0);
        check.due(y, "ofAge at 15, 23, 31, 39", y.ofAge(1), 8 + 16 + 32, 0);
        check.due(y, "love at 16", y.love(0, 2), 9, 0);
        check.due(y, "love at 15", y.love(1, 2), 0, 0);
        check.due(y, "love at 40", y.love(0, 5), 9, 0);
        check.due(y, "love at 47", y.love(1, 6), 0, 0);
        check.due(y, "ofAge, born 60", y.ofAge(2), (1 << 10) + (1 << 11) + (1 << 12), 0);
        SworeCaptain z = Check.told("oath years 5 trial 1;harbour h news 0 worth 0;woman a plain in h heart 9 born 60;"
            + "woman b plain in h heart 9 born 4");
        check.due(z, "ofAge to 40", z.ofAge(0), (1 << 16) + (1 << 17) + (1 << 18) + (1 << 19) + (1 << 20), 0);
        check.due(z, "love at 41", z.love(1, 9), 0, 0);
        check.due(z, "love at 36", z.love(1, 8), 9, 0);
    }

    private void loves() {
        int[][] want = {{0, 0, 0, 30, 30, 30, 0}, {0, 0, 0, 30, 30, 30, 30}, {0, 0, 0, 0, 45, 45, 45}, {0, 0, 0, 20, 20, 20, 20}};
        int[][] alone = {{0, 0, 0, 60, 60, 60, 0}, {0, 0, 0, 50, 50, 50, 50}, {0, 0, 0, 0, 45, 45, 45}, {0, 0, 0, 20, 20, 20, 20}};
        for (int w = 0; w < 4; w++) {
            for (int l = 0; l < 7; l++) {
                check.due(x, "love(" + w + ", " + l + ")", x.love(w, l), want[w][l], 0);
                check.due(x, "alone(" + w + ", " + l + ")", x.alone(w, l), alone[w][l], 0);
            }
        }
        check.due(x, "love(0, 30)", x.love(0, 30), 0, 0);
        check.due(x, "love(0, 31)", x.love(0, 31), -1, 2);
        check.due(x, "love(0, -1)", x.love(0, -1), -1, 2);
        check.due(x, "love(4, 31)", x.love(4, 31), -1, 1);
        check.due(x, "alone(0, 31)", x.alone(0, 31), -1, 2);
        check.due(x, "alone(0, -1)", x.alone(0, -1), -1, 2);
        check.due(x, "alone(-1, -1)", x.alone(-1, -1), -1, 1);

        // Downwards each time: 99 by news 1 is 98.505; half of 98 is 49; of worth 99 half is 49;
        // rivals of 33 and 1 in a hundred: 98 to 65.66, 65 to 64.35.
        SworeCaptain y = Check.told("oath years 5 trial 1;harbour h news 1 worth 99;harbour g news 100 worth 99;"
            + "woman a plain in h heart 99 born 0;woman b proud in h heart 99 born 0;woman c sold in h heart 99 born 0;"
            + "woman d half in h heart 99 born 0;woman e sold in g heart 97 born 0;woman f sold in g heart 99 born 0;"
            + "woman i half in g heart 99 born 0;woman j plain in h heart 99 born 0;rival j odds 33;rival j odds 1;rival i odds 99");
        int[] loves = {98, 99, 98, 49, 49, 49, 0, 64};
        for (int w = 0; w < 8; w++) {
            check.due(y, "love of the downwards ones " + w, y.love(w, 4), loves[w], 0);
        }
        check.due(y, "alone of a half one, 99 by news 100", y.alone(6, 4), 24, 0);
        check.due(y, "alone of a plain one", y.alone(7, 4), 98, 0);
    }

    private void trueOnes() {
        check.due(x, "isTrue(0, 3) upper", x.isTrue(0, 3, false), 3, 0);
        check.due(x, "isTrue(0, 3) lower", x.isTrue(0, 3, true), 10, 0);
        check.due(x, "isTrue(0, 0) upper", x.isTrue(0, 0, false), 0, 0);
        check.due(x, "isTrue(0, 0) lower", x.isTrue(0, 0, true), 1, 0);
        check.due(x, "isTrue(0, 31)", x.isTrue(0, 31, true), -1, 2);
        check.due(x, "isTrue(0, -1)", x.isTrue(0, -1, false), -1, 2);
        check.due(x, "isTrue(4, 31)", x.isTrue(4, 31, true), -1, 1);
        SworeCaptain y = Check.told("oath years 7 trial 3;harbour h news 0 worth 0;woman a proud in h heart 60 born 0;"
            + "woman b proud in h heart 99 born 0");
        check.due(y, "three days of 60, upper", y.isTrue(0, 3, false), 27, 0);
        check.due(y, "three days of 60, lower", y.isTrue(0, 3, true), 125, 0);
        check.due(y, "three days of 99, upper", y.isTrue(1, 3, false), 970299, 0);
        check.due(y, "three days of 99, lower", y.isTrue(1, 3, true), 1000000, 0);
        SworeCaptain z = Check.told("oath years 7 trial 2;harbour h news 0 worth 0;woman a proud in h heart 60 born 0");
        check.due(z, "two days of 60, upper", z.isTrue(0, 3, false), 9, 0);
        check.due(z, "two days of 60, lower", z.isTrue(0, 3, true), 25, 0);
    }

    private void landings() {
        int[] best = {3, 3, 4, 3};
        for (int w = 0; w < 4; w++) {
            check.due(x, "bestLanding(" + w + ")", x.bestLanding(w), best[w], 0);
        }
        check.due(x, "bestLanding(4)", x.bestLanding(4), -1, 1);
        check.due(x, "bestLanding(-1)", x.bestLanding(-1), -1, 1);
        SworeCaptain y = Check.told("oath years 5 trial 1;harbour h news 0 worth 0;woman a proud in h heart 0 born 0;"
            + "woman b proud in h heart 1 born 60");
        check.due(y, "bestLanding without love", y.bestLanding(0), -2, 0);
        check.due(y, "bestLanding, born 60", y.bestLanding(1), 16, 0);
        check.due(x, "present(0)", x.present(0), 0, 0);
        check.due(x, "present(3)", x.present(3), 11, 0);
        check.due(x, "present(4)", x.present(4), 15, 0);
        check.due(x, "present(6)", x.present(6), 14, 0);
        check.due(x, "present(30)", x.present(30), 0, 0);
        check.due(x, "present(31)", x.present(31), -1, 2);
        check.due(x, "present(-1)", x.present(-1), -1, 2);
        check.due(y, "present without heart", y.present(4), 0, 0);
        check.due(y, "present by 1 in a hundred", y.present(16), 2, 0);
        check.due(y, "belle by 1 in a hundred", y.belle(0, 16), 1, 0);
    }

    private void belles() {
        check.due(x, "belle(0, 3)", x.belle(0, 3), 0, 0);
        check.due(x, "belle(1, 3)", x.belle(1, 3), 1, 0);
        check.due(x, "belle(1, 4)", x.belle(1, 4), 2, 0);
        check.due(x, "belle(0, 6)", x.belle(0, 6), -2, 0);
        check.due(x, "belle(3, 3)", x.belle(3, 3), -1, 1);
        check.due(x, "belle(-1, 31)", x.belle(-1, 31), -1, 1);
        check.due(x, "belle(0, 31)", x.belle(0, 31), -1, 2);
        check.due(x, "belle(0, -1)", x.belle(0, -1), -1, 2);
        SworeCaptain y = Check.told("oath years 7 trial 1;harbour h news 0 worth 0;woman a proud in h heart 5 born 0;"
            + "woman b proud in h heart 9 born 0;woman c proud in h heart 9 born 0");
        check.due(y, "belle, the first of like ones", y.belle(0, 3), 1, 0);
    }

    private void distances() {
        int[][] want = {{0, 1, 2}, {1, 0, 1}, {2, 1, 0}};
        for (int h = 0; h < 3; h++) {
            for (int g = 0; g < 3; g++) {
                check.due(x, "sevens(" + h + ", " + g + ")", x.sevens(h, g), want[h][g], 0);
            }
        }
        check.due(x, "sevens(0, 3)", x.sevens(0, 3), -1, 1);
        check.due(x, "sevens(3, 0)", x.sevens(3, 0), -1, 1);
        check.due(x, "sevens(-1, 0)", x.sevens(-1, 0), -1, 1);
        check.due(x, "sevens(0, MIN)", x.sevens(0, MIN), -1, 1);
        SworeCaptain y = Check.told("oath years 7 trial 1;harbour a news 0 worth 0;harbour b news 0 worth 0;"
            + "harbour c news 0 worth 0;harbour d news 0 worth 0;harbour e news 0 worth 0;harbour f news 0 worth 0;"
            + "sea f e;sea e d;sea d c;sea c b;sea b a;woman w plain in a heart 1 born 1");
        check.due(y, "sevens along all six", y.sevens(0, 5), 5, 0);
        check.due(y, "sevens back", y.sevens(5, 0), 5, 0);
        SworeCaptain z = Check.told("oath years 7 trial 1;harbour a news 0 worth 0;harbour b news 0 worth 0;"
            + "woman w plain in a heart 1 born 1");
        check.due(z, "sevens without a sea", z.sevens(0, 1), -2, 0);
        check.due(z, "sevens from itself", z.sevens(1, 1), 0, 0);
    }

    private void otherYears() {
        check.due(x, "byYears(0, 3, 5)", x.byYears(0, 3, 5), 0, 0);
        check.due(x, "byYears(0, 3, 6)", x.byYears(0, 3, 6), 30, 0);
        check.due(x, "byYears(0, 3, 9)", x.byYears(0, 3, 9), 30, 0);
        check.due(x, "byYears(2, 3, 8)", x.byYears(2, 3, 8), 45, 0);
        check.due(x, "byYears(0, 3, 4)", x.byYears(0, 3, 4), -1, 2);
        check.due(x, "byYears(0, 3, 10)", x.byYears(0, 3, 10), -1, 2);
        check.due(x, "byYears(0, 31, 5)", x.byYears(0, 31, 5), -1, 2);
        check.due(x, "byYears(0, -1, 5)", x.byYears(0, -1, 5), -1, 2);
        check.due(x, "byYears(4, 31, 4)", x.byYears(4, 31, 4), -1, 1);
        // At landing 3: in year 15 nobody, 18 Ann and Bea, 21 these and Dot, 24 and 27 all.
        check.due(x, "bestYears(3)", x.bestYears(3), 8, 0);
        check.due(x, "bestYears(0), all like", x.bestYears(0), 5, 0);
        // At landing 5: in year 25 and 30 all.
        check.due(x, "bestYears(5)", x.bestYears(5), 5, 0);
        // At landing 2: a woman born in 0 is 16 by 8 years; one born in 2 by 9 years.
        SworeCaptain y = Check.told("oath years 5 trial 1;harbour h news 0 worth 0;woman a proud in h heart 9 born 2");
        check.due(y, "bestYears(2), the last", y.bestYears(2), 9, 0);
        check.due(x, "bestYears(31)", x.bestYears(31), -1, 2);
        check.due(x, "bestYears(-1)", x.bestYears(-1), -1, 2);
    }
}
