/** Promises 41 to 43: lives by draws. From SEED 0 the draws are, mod 100, 74, 24, 52, 90, 41. */
public final class LivesTest {
    /** By 8 years a woman born in year 0 is OF AGE from landing 2. */
    private static final String ONE = "harbour h news 0 worth 0;woman a proud in h ";

    private final Check check = new Check("LivesTest");

    public static void main(String[] args) {
        LivesTest t = new LivesTest();
        t.refusals();
        t.oneWoman();
        t.severalWomen();
        t.days();
        t.ways();
        t.several();
        t.fromNow();
        t.check.end();
    }

    private void refusals() {
        SworeCaptain y = new SworeCaptain();
        check.due(y, "life", y.life(-1, 0), -1, 1);
        check.due(y, "lifeBy", y.lifeBy(-1, 0), -1, 1);
        check.due(y, "lives", y.lives(-1, 1), -1, 1);
        SworeCaptain x = Check.told(Check.EXAMPLE);
        for (int seed : new int[] {-1, 65537, Integer.MIN_VALUE, Integer.MAX_VALUE}) {
            check.due(x, "life(seed, 1)", x.life(seed, 1), -1, 2);
            check.due(x, "lifeBy(seed, 1)", x.lifeBy(seed, 1), -1, 2);
            check.due(x, "lives(seed, 1)", x.lives(seed, 1), -1, 2);
        }
        for (int n : new int[] {-1, 21, Integer.MIN_VALUE, Integer.MAX_VALUE}) {
            check.due(x, "life(0, n)", x.life(0, n), -1, 2);
            check.due(x, "lifeBy(0, n)", x.lifeBy(0, n), -1, 2);
        }
        for (int n : new int[] {-1, 0, 31, Integer.MIN_VALUE, Integer.MAX_VALUE}) {
            check.due(x, "lives(0, n)", x.lives(0, n), -1, 2);
        }
        // 36 each time: at landing 3 not below 30, at landing 4 below 45.
        check.due(x, "life(65536, 20)", x.life(65536, 20), 4, 0);
        check.due(x, "lives(65536, 30)", x.lives(65536, 30), 0, 0);
        SworeCaptain z = Check.told("oath years 8 trial 1;" + ONE + "heart 99 born 0");
        z.sail(0);
        z.sail(0);
        z.court(0);
        check.due(z, "life FREED", z.life(0, 1), -1, 5);
        check.due(z, "life FREED, a number", z.life(0, 21), -1, 2);
        check.due(z, "lifeBy FREED", z.lifeBy(0, 1), -1, 5);
        check.due(z, "lives FREED", z.lives(0, 1), -1, 5);
        check.due(z, "lives FREED, a number", z.lives(0, 0), -1, 2);
    }

    private void oneWoman() {
        SworeCaptain x = Check.told("oath years 8 trial 1;" + ONE + "heart 75 born 0");
        check.due(x, "life(0, 0)", x.life(0, 0), 0, 0);
        check.due(x, "lifeBy(0, 0)", x.lifeBy(0, 0), -2, 0);
        check.due(x, "life(0, 1): she isn't OF AGE, nothing is drawn", x.life(0, 1), 0, 0);
        check.due(x, "life(0, 2): 74 below 75", x.life(0, 2), 2, 0);
        check.due(x, "lifeBy(0, 2)", x.lifeBy(0, 2), 0, 0);
        check.due(x, "life(0, 20)", x.life(0, 20), 2, 0);
        check.due("SEED stays", x.size(12), 0);
        check.due("the landing stays", x.size(9), 0);
        check.due("nobody TRIED", x.woman(0, 5), 0);
        SworeCaptain y = Check.told("oath years 8 trial 1;" + ONE + "heart 74 born 0");
        check.due(y, "life(0, 20): 74 isn't below 74, and she is TRIED then", y.life(0, 20), 0, 0);
        check.due(y, "lifeBy(0, 20)", y.lifeBy(0, 20), -2, 0);
        // SEED 65,536 goes on to itself: 36 each time.
        check.due(y, "life(65536, 2)", y.life(65536, 2), 2, 0);
        check.due("36 below 37 on three days", Check.told("oath years 8 trial 3;" + ONE + "heart 37 born 0").life(65536, 2), 2);
        check.due("36 not below 36", Check.told("oath years 8 trial 3;" + ONE + "heart 36 born 0").life(65536, 2), 0);
    }

    private void severalWomen() {
        SworeCaptain x = Check.told("oath years 8 trial 1;" + ONE + "heart 60 born 0;woman b proud in h heart 60 born 0;"
            + "woman c proud in h heart 59 born 0");
        // The first of like ones by 74, the second by 24.
        check.due(x, "life(0, 3)", x.life(0, 3), 3, 0);
        check.due(x, "lifeBy(0, 3)", x.lifeBy(0, 3), 1, 0);
        SworeCaptain y = Check.told("oath years 8 trial 1;" + ONE + "heart 20 born 0;woman b proud in h heart 74 born 0;"
            + "woman c proud in h heart 80 born 8");
        // At landing 2 b by 74; at landing 3 c by 24.
        check.due(y, "life, the greatest then", y.life(0, 5), 3, 0);
        check.due(y, "lifeBy, the greatest then", y.lifeBy(0, 5), 2, 0);
        // By 24 and 52: b at landing 2.
        check.due(y, "life(74, 5)", y.life(74, 5), 2, 0);
        check.due(y, "lifeBy(74, 5)", y.lifeBy(74, 5), 1, 0);
    }

    private void days() {
        SworeCaptain x = Check.told("oath years 8 trial 2;" + ONE + "heart 75 born 0");
        check.due(x, "two days, 74 and 24 below 75", x.life(0, 2), 2, 0);
        // One draw for the first, who isn't true on her first day; 24 and 52 for the second.
        SworeCaptain y = Check.told("oath years 8 trial 2;" + ONE + "heart 70 born 0;woman b proud in h heart 53 born 0");
        check.due(y, "till one isn't below it", y.life(0, 3), 3, 0);
        check.due(y, "by the second", y.lifeBy(0, 3), 1, 0);
        SworeCaptain z = Check.told("oath years 8 trial 3;" + ONE + "heart 75 born 0");
        check.due(z, "three days", z.life(0, 2), 2, 0);
        check.due(z, "three days of 52, 90", z.life(5624, 2), 0, 0);
    }

    private void ways() {
        String sea = "oath years 8 trial 1;harbour a news 0 worth 0;harbour b news 0 worth 0;harbour c news 0 worth 0;sea a b;"
            + "sea b c;woman p proud in c heart 99 born 0;woman q proud in b heart 50 born 0";
        SworeCaptain x = Check.told(sea);
        check.due(x, "to b, then to c", x.life(0, 3), 3, 0);
        check.due(x, "by her in c", x.lifeBy(0, 3), 0, 0);
        SworeCaptain y = Check.told(sea.replace("heart 50 born 0", "heart 50 born 60"));
        check.due(y, "he stays where there is no love he can come to", y.life(0, 5), 0, 0);
    }

    private void several() {
        SworeCaptain x = Check.told("oath years 8 trial 1;" + ONE + "heart 60 born 0");
        // One draw a life: 74, 24, 52, 90, 41.
        int[] freed = {0, 1, 2, 2, 3};
        for (int n = 1; n <= 5; n++) {
            check.due(x, "lives(0, " + n + ")", x.lives(0, n), freed[n - 1], 0);
        }
        check.due(x, "lives(74, 1)", x.lives(74, 1), 1, 0);
        check.due(x, "lives(65536, 30)", x.lives(65536, 30), 30, 0);
        check.due("SEED stays", x.size(12), 0);
        SworeCaptain y = Check.told("oath years 5 trial 1;" + ONE + "heart 99 born 0");
        check.due(y, "three landings are too few to come OF AGE", y.lives(0, 30), 0, 0);
        check.due(y, "four are not", y.life(0, 4), 4, 0);
    }

    private void fromNow() {
        SworeCaptain x = Check.told("oath years 8 trial 1;" + ONE + "heart 75 born 0;woman b proud in h heart 10 born 0");
        x.sail(0);
        check.due(x, "counted from NOW", x.life(0, 3), 1, 0);
        x.court(0);
        check.due(x, "without one TRIED", x.life(0, 3), 0, 0);
        check.due(x, "lives without one TRIED", x.lives(0, 3), 0, 0);
        x.undo();
        for (int i = 0; i < 29; i++) {
            x.sail(0);
        }
        check.due("at landing 30", x.size(9), 30);
        check.due(x, "life at landing 30", x.life(0, 20), 0, 0);
        check.due(x, "lives at landing 30", x.lives(0, 30), 0, 0);
    }
}
