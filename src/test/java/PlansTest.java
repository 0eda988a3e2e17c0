/** Promises 19 to 27: where to land. */
public final class PlansTest {
    private static final String H3 = "harbour a news 0 worth 0;harbour b news 0 worth 0;harbour c news 0 worth 0;";

    private final Check check = new Check("PlansTest");

    public static void main(String[] args) {
        PlansTest t = new PlansTest();
        t.refusals();
        t.routesOfExample();
        t.likeRoutes();
        t.seasOfRoutes();
        t.greatRoutes();
        t.triedOnes();
        t.lettersOfExample();
        t.lettersFromNow();
        t.soonest();
        t.bells();
        t.check.end();
    }

    private void refused(SworeCaptain x, int trouble) {
        check.due(x, "route(1)", x.route(1, true), -1, trouble);
        check.due(x, "mean(1)", x.mean(1, false), -1, trouble);
        check.due(x, "routeAt(1, 0)", x.routeAt(1, 0), -1, trouble);
        check.due(x, "routes(1)", x.routes(1), -1, trouble);
        check.due(x, "letters(0)", x.letters(0), -1, trouble);
        check.due(x, "lettersAt(1, 9)", x.lettersAt(1, 9), -1, trouble);
    }

    private void refusedByNumber(SworeCaptain x, int n, int trouble) {
        check.due(x, "route(n)", x.route(n, true), -1, trouble);
        check.due(x, "mean(n)", x.mean(n, true), -1, trouble);
        check.due(x, "routeAt(n, -1)", x.routeAt(n, -1), -1, trouble);
        check.due(x, "routes(n)", x.routes(n), -1, trouble);
    }

    private void refusals() {
        SworeCaptain y = new SworeCaptain();
        refused(y, 1);
        refusedByNumber(y, 9, 1);
        check.due(y, "letters(9) without an oath", y.letters(9), -1, 1);
        check.due(y, "lost()", y.lost(), -1, 1);
        check.due(y, "soonest(0)", y.soonest(0), -1, 1);
        check.due(y, "bells()", y.bells(), -1, 1);

        SworeCaptain x = Check.told(Check.EXAMPLE);
        for (int n : new int[] {0, 4, -1, Integer.MIN_VALUE, Integer.MAX_VALUE}) {
            refusedByNumber(x, n, 2);
        }
        for (int n : new int[] {6, -1, Integer.MIN_VALUE, Integer.MAX_VALUE}) {
            check.due(x, "letters(n)", x.letters(n), -1, 2);
            check.due(x, "lettersAt(n, -1)", x.lettersAt(n, -1), -1, 2);
        }
        check.due(x, "lettersAt(0, 0)", x.lettersAt(0, 0), -1, 1);
        check.due(x, "lettersAt(2, 2)", x.lettersAt(2, 2), -1, 1);
        check.due(x, "lettersAt(2, -1)", x.lettersAt(2, -1), -1, 1);

        SworeCaptain z = freed();
        refused(z, 5);
        refusedByNumber(z, 4, 2);
        check.due(z, "letters(6) FREED", z.letters(6), -1, 2);
        check.due(z, "lost() FREED: all not brought", z.lost(), 2, 0);
        check.due(z, "soonest FREED", z.soonest(0), -2, 0);
        check.due(z, "soonest(9) FREED", z.soonest(9), -1, 1);
        check.due(z, "bells() FREED", z.bells(), 1, 0);
    }

    /** One who is FREED at landing 2, with a letter brought and one not. */
    private static SworeCaptain freed() {
        SworeCaptain x = Check.told("oath years 8 trial 1;harbour h news 0 worth 0;harbour g news 0 worth 0;sea h g;"
            + "woman a proud in h heart 99 born 0;letter h by 1;letter g by 5");
        x.sail(0);
        x.sail(0);
        x.court(0);
        if (x.size(11) != 0) {
            throw new IllegalStateException("not freed");
        }
        return x;
    }

    private void routesOfExample() {
        SworeCaptain x = Check.told(Check.EXAMPLE);
        check.due(x, "route(3) of landing 0, upper", x.route(3, false), 0, 0);
        check.due(x, "route(3) of landing 0, lower", x.route(3, true), 1, 0);
        check.due(x, "mean(3) of landing 0, upper", x.mean(3, false), 0, 0);
        check.due(x, "mean(3) of landing 0, lower", x.mean(3, true), 1, 0);
        check.due(x, "routes(3) of landing 0", x.routes(3), 0, 0);
        check.due(x, "routeAt(3, 0) of landing 0", x.routeAt(3, 0), -1, 6);
        check.due(x, "routeAt(3, 9) of landing 0", x.routeAt(3, 9), -1, 6);

        // At landing 2 in cape: next ann 30 (cape), bea 30 (bay); of like ones the first.
        x.sail(0);
        x.sail(0);
        check.due(x, "route(1) upper", x.route(1, false), 3, 0);
        check.due(x, "route(1) lower", x.route(1, true), 10, 0);
        check.due(x, "routeAt(1, 0)", x.routeAt(1, 0), 0, 0);
        check.due(x, "routes(1)", x.routes(1), 2, 0);
        check.due(x, "routeAt(1, 1)", x.routeAt(1, 1), -1, 1);
        check.due(x, "routeAt(1, -1)", x.routeAt(1, -1), -1, 1);
        // Two: ann then bea or cis; bea then ann, cis or dot. Ann and cis: 1 - 0.7 * 0.55 = 123/200.
        check.due(x, "routes(2)", x.routes(2), 5, 0);
        check.due(x, "route(2) upper", x.route(2, false), 123, 0);
        check.due(x, "route(2) lower", x.route(2, true), 200, 0);
        check.due(x, "routeAt(2, 0)", x.routeAt(2, 0), 0, 0);
        check.due(x, "routeAt(2, 1)", x.routeAt(2, 1), 2, 0);
        check.due(x, "mean(2) upper", x.mean(2, false), 3, 0);
        check.due(x, "mean(2) lower", x.mean(2, true), 4, 0);
        // Three: ann, bea, then cis, dot; ann, cis, then bea, dot; bea, ann, cis; bea, cis, ann; bea, cis, dot;
        // bea, dot, cis. Best of ann, bea, cis in any order: 1 - 0.7 * 0.7 * 0.55 = 1461/2000.
        check.due(x, "routes(3)", x.routes(3), 8, 0);
        check.due(x, "route(3) upper", x.route(3, false), 1461, 0);
        check.due(x, "route(3) lower", x.route(3, true), 2000, 0);
        check.due(x, "routeAt(3, 0)", x.routeAt(3, 0), 0, 0);
        check.due(x, "routeAt(3, 1)", x.routeAt(3, 1), 1, 0);
        check.due(x, "routeAt(3, 2)", x.routeAt(3, 2), 2, 0);
        check.due(x, "mean(3) upper", x.mean(3, false), 21, 0);
        check.due(x, "mean(3) lower", x.mean(3, true), 20, 0);
    }

    private void likeRoutes() {
        SworeCaptain x = Check.told("oath years 8 trial 2;" + H3 + "sea a b;sea a c;woman p proud in b heart 50 born 0;"
            + "woman q proud in a heart 50 born 0;woman r proud in c heart 50 born 0");
        x.sail(0);
        // b and c lie apart: of p, q, r those rows go that pass from b to c by a.
        check.due(x, "routes(3), like ones", x.routes(3), 2, 0);
        check.due(x, "routeAt(3, 0), like ones", x.routeAt(3, 0), 0, 0);
        check.due(x, "routeAt(3, 1), like ones", x.routeAt(3, 1), 1, 0);
        check.due(x, "routeAt(3, 2), like ones", x.routeAt(3, 2), 2, 0);
        // 1 - (3/4)^3 = 37/64.
        check.due(x, "route(3), like ones, upper", x.route(3, false), 37, 0);
        check.due(x, "route(3), like ones, lower", x.route(3, true), 64, 0);
        check.due(x, "mean(3), like ones, upper", x.mean(3, false), 3, 0);
        check.due(x, "mean(3), like ones, lower", x.mean(3, true), 4, 0);
    }

    private void seasOfRoutes() {
        SworeCaptain x = Check.told("oath years 8 trial 1;" + H3 + "sea a b;woman p proud in c heart 90 born 0;"
            + "woman q proud in b heart 10 born 0");
        x.sail(0);
        check.due(x, "a route can't cross where there is no sea", x.routeAt(1, 0), 1, 0);
        check.due(x, "routes(1)", x.routes(1), 1, 0);
        check.due(x, "mean(1) of one row, upper", x.mean(1, false), 1, 0);
        check.due(x, "mean(1) of one row, lower", x.mean(1, true), 10, 0);
        check.due(x, "routes(2)", x.routes(2), 0, 0);
        check.due(x, "route(2) upper", x.route(2, false), 0, 0);
        check.due(x, "route(2) lower", x.route(2, true), 1, 0);
    }

    private void greatRoutes() {
        StringBuilder text = new StringBuilder("oath years 8 trial 3;harbour a news 0 worth 0");
        for (char w = 'a'; w < 'i'; w++) {
            text.append(";woman w").append(w).append(" proud in a heart ").append(w == 'h' ? 98 : 99).append(" born 0");
        }
        SworeCaptain x = Check.told(text.toString());
        x.sail(0);
        check.due(x, "routes(3) of eight women", x.routes(3), 336, 0);
        // 10^18 - (10^6 - 970299)^3
        check.due(x, "route(3) upper", x.route(3, false), 1000000000000000000L - 29701L * 29701L * 29701L, 0);
        check.due(x, "route(3) lower", x.route(3, true), 1000000000000000000L, 0);
        check.due(x, "mean(3) upper", x.mean(3, false), 3L * 970299, 0);
        check.due(x, "mean(3) lower", x.mean(3, true), 1000000, 0);
        check.due(x, "routeAt(3, 2)", x.routeAt(3, 2), 2, 0);
        SworeCaptain y = Check.told("oath years 8 trial 3;harbour a news 0 worth 0;woman p proud in a heart 1 born 0");
        y.sail(0);
        check.due(y, "the least chance, upper", y.route(1, false), 1, 0);
        check.due(y, "the least chance, lower", y.route(1, true), 1000000, 0);
    }

    private void triedOnes() {
        SworeCaptain x = Check.told(Check.EXAMPLE);
        x.court(0);
        x.sail(0);
        x.sail(0);
        check.due(x, "routes(1) without one TRIED", x.routes(1), 1, 0);
        check.due(x, "routeAt(1, 0) without one TRIED", x.routeAt(1, 0), 1, 0);
        x.undo();
        x.undo();
        x.undo();
        x.sail(0);
        x.sail(0);
        check.due(x, "routes(1), nobody TRIED", x.routes(1), 2, 0);
    }

    private void lettersOfExample() {
        SworeCaptain x = Check.told(Check.EXAMPLE);
        int[] many = {0, 1, 2, 2, 3, 3};
        // cape; bay cape; cape bay isle needs two: 0 0 .. brings one only, so bay first.
        int[][] rows = {{}, {0}, {1, 0}, {1, 0, 0}, {1, 2, 1, 0}, {1, 2, 1, 0, 0}};
        for (int n = 0; n <= 5; n++) {
            check.due(x, "letters(" + n + ")", x.letters(n), many[n], 0);
            for (int i = 0; i < n; i++) {
                check.due(x, "lettersAt(" + n + ", " + i + ")", x.lettersAt(n, i), rows[n][i], 0);
            }
        }
        check.due(x, "lost()", x.lost(), 0, 0);
    }

    private void lettersFromNow() {
        SworeCaptain x = Check.told(Check.EXAMPLE);
        x.sail(1);
        check.dueLed(x, 0, 0);
        check.due(x, "lost() at landing 1", x.lost(), 0, 0);
        check.due(x, "letters(1) at landing 1", x.letters(1), 1, 0);
        // Cape (2) or isle (1) next; the first by harbours is cape.
        check.due(x, "lettersAt(1, 0) at landing 1", x.lettersAt(1, 0), 0, 0);
        check.due(x, "letters(3) at landing 1", x.letters(3), 2, 0);
        check.due(x, "lettersAt(3, 0) at landing 1", x.lettersAt(3, 0), 2, 0);
        x.sail(1);
        check.due(x, "lost() at landing 2: isle by 2", x.lost(), 2, 0);
        check.due(x, "letters(5) at landing 2", x.letters(5), 1, 0);
        x.sail(2);
        x.sail(2);
        check.due(x, "lost() at landing 4, two from cape by 5", x.lost(), 6, 0);
        check.due(x, "letters(5) at landing 4", x.letters(5), 0, 0);
        check.due(x, "lettersAt(5, 0), nothing to bring", x.lettersAt(5, 0), 1, 0);
        check.due(x, "lettersAt(5, 4), nothing to bring", x.lettersAt(5, 4), 0, 0);

        SworeCaptain z = Check.told(Check.EXAMPLE);
        z.sail(0);
        check.due(z, "lost(), bay by 1 and isle by 2", z.lost(), 3, 0);
        SworeCaptain y = Check.told("oath years 7 trial 1;harbour a news 0 worth 0;harbour b news 0 worth 0;"
            + "woman w plain in a heart 1 born 1;letter a by 1;letter b by 5;letter a by 1");
        check.due(y, "by landing there again", y.letters(1), 2, 0);
        check.due(y, "lost() where no sea goes", y.lost(), 2, 0);
        y.sail(0);
        check.due(y, "lost() behind it", y.lost(), 2, 0);
        check.due(y, "letters(5) behind it", y.letters(5), 0, 0);
        check.dueLed(y, 0, 0);
        check.dueLed(y, 1, 2);
        check.dueLed(y, 2, Check.THROWS);
    }

    private void soonest() {
        SworeCaptain x = Check.told(Check.EXAMPLE);
        int[] first = {1, 1, 2};
        for (int h = 0; h < 3; h++) {
            check.due(x, "soonest(" + h + ")", x.soonest(h), first[h], 0);
        }
        check.due(x, "soonest(3)", x.soonest(3), -1, 1);
        check.due(x, "soonest(-1)", x.soonest(-1), -1, 1);
        x.sail(1);
        for (int h = 0; h < 3; h++) {
            check.due(x, "soonest(" + h + ") from bay", x.soonest(h), 2, 0);
        }
        SworeCaptain y = Check.told("oath years 7 trial 1;harbour a news 0 worth 0;harbour b news 0 worth 0;"
            + "woman w plain in a heart 1 born 1");
        check.due(y, "soonest where no sea goes", y.soonest(1), -2, 0);
    }

    private void bells() {
        check.due("bells of the example", Check.told(Check.EXAMPLE).bells(), 2);
        String six = "oath years 7 trial 1;" + H3 + "harbour d news 0 worth 0;harbour e news 0 worth 0;harbour f news 0 worth 0;"
            + "woman w plain in a heart 1 born 1";
        check.due("bells without seas", Check.told(six).bells(), 63);
        // A ring: each has itself and two more; 0 and 3 are the least bits.
        check.due("bells of a ring", Check.told(six + ";sea a b;sea b c;sea c d;sea d e;sea e f;sea f a").bells(), 9);
        check.due("bells of a star", Check.told(six + ";sea f a;sea f b;sea f c;sea f d;sea f e").bells(), 32);
        check.due("bells of pairs", Check.told(six + ";sea a b;sea c d;sea e f").bells(), 1 + 4 + 16);
        SworeCaptain x = Check.told("oath years 7 trial 1;harbour a news 0 worth 0;woman w plain in a heart 1 born 1");
        check.due(x, "bells of one", x.bells(), 1, 0);
    }
}
