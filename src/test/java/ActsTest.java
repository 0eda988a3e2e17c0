/** Promises 44 to 52: acts, undoing, images, and what is told of them. */
public final class ActsTest {
    private static final String TWO = "oath years 8 trial 1;harbour h news 0 worth 0;harbour g news 0 worth 0;harbour f news 0 worth 0;"
        + "sea h g;woman a proud in h heart 75 born 0;woman b proud in h heart 25 born 0;woman c proud in g heart 99 born 0;"
        + "letter g by 2;letter h by 2;letter g by 1;letter h by 3;letter f by 5";

    private final Check check = new Check("ActsTest");

    public static void main(String[] args) {
        ActsTest t = new ActsTest();
        t.withoutOath();
        t.sailing();
        t.letters();
        t.courting();
        t.days();
        t.seeds();
        t.undoing();
        t.sixteen();
        t.images();
        t.lastLanding();
        t.sizes();
        t.check.end();
    }

    private void withoutOath() {
        SworeCaptain x = new SworeCaptain();
        check.due(x, "sail(0)", x.sail(0), -1, 1);
        check.due(x, "court(0)", x.court(0), -1, 1);
        check.due(x, "seed(0)", x.seed(0), false, 1);
        check.due(x, "seed(-1)", x.seed(-1), false, 1);
        check.due(x, "undo()", x.undo(), false, 6);
        check.due(x, "image()", x.image(), -1, 1);
        check.due(x, "back(0)", x.back(0), false, 1);
        check.dueLed(x, 0, Check.THROWS);
        check.due("led tells no trouble", x.trouble(), 1);
    }

    private void sailing() {
        SworeCaptain x = Check.told(TWO);
        for (int h : new int[] {-1, 3, 32, Integer.MIN_VALUE, Integer.MAX_VALUE}) {
            check.due(x, "sail(" + h + ")", x.sail(h), -1, 1);
        }
        check.due(x, "sail(2), no sea", x.sail(2), -1, 5);
        check.due("nothing came of it", x.size(9) + x.size(13), 0);
        check.due(x, "sail(0), the same", x.sail(0), 1, 0);
        check.due("the harbour", x.size(10), 0);
        check.due(x, "sail(1)", x.sail(1), 2, 0);
        check.due("the harbour", x.size(10), 1);
        check.due("the landing", x.size(9), 2);
        check.due(x, "sail(0), back", x.sail(0), 3, 0);
        check.due(x, "court(0): 74 below 75", x.court(0), 1, 0);
        check.due(x, "sail(0) FREED", x.sail(0), -1, 5);
        check.due(x, "sail(9) FREED", x.sail(9), -1, 1);
    }

    private void letters() {
        SworeCaptain x = Check.told(TWO);
        check.dueLed(x, 0, Check.THROWS);
        x.sail(0);
        check.dueLed(x, 0, 1);
        check.dueLed(x, 1, 3);
        check.dueLed(x, 2, Check.THROWS);
        check.dueLed(x, -1, Check.THROWS);
        check.dueLed(x, Integer.MIN_VALUE, Check.THROWS);
        check.dueLed(x, Integer.MAX_VALUE, Check.THROWS);
        x.sail(1);
        // To g by 2, not by 1; by numbers it stands ahead of those brought before it.
        check.dueLed(x, 0, 0);
        check.dueLed(x, 1, 1);
        check.dueLed(x, 2, 3);
        check.dueLed(x, 3, Check.THROWS);
        check.due("lost()", x.lost(), 4 + 16);
        x.undo();
        check.dueLed(x, 0, 1);
        check.dueLed(x, 2, Check.THROWS);
        x.undo();
        check.dueLed(x, 0, Check.THROWS);
    }

    private void courting() {
        SworeCaptain x = Check.told(TWO);
        for (int w : new int[] {-1, 3, 8, 32, Integer.MIN_VALUE, Integer.MAX_VALUE}) {
            check.due(x, "court(" + w + ")", x.court(w), -1, 1);
        }
        check.due(x, "court(2), not in her harbour", x.court(2), -1, 5);
        check.due("nothing was drawn", x.size(12), 0);
        check.due(x, "court(0), no LOVE yet", x.court(0), 0, 0);
        check.due("one draw", x.size(12), 74);
        check.due("TRIED", x.woman(0, 5), 1);
        check.due(x, "court(0), TRIED", x.court(0), -1, 5);
        check.due("not FREED", x.size(11), -2);
        x.sail(0);
        x.sail(0);
        check.due(x, "court(1): 24 below 25", x.court(1), 1, 0);
        check.due("FREED by", x.size(11), 1);
        check.due("a draw more", x.size(12), 5624);
        check.due("TRIED too", x.woman(1, 5), 1);
        check.due(x, "court(1) FREED", x.court(1), -1, 5);
        check.due(x, "court(9) FREED", x.court(9), -1, 1);
        check.due("acts", x.size(13), 4);
        check.due(x, "undo()", x.undo(), true, 0);
        check.due("not FREED any more", x.size(11), -2);
        check.due("SEED too", x.size(12), 74);
        check.due("not TRIED any more", x.woman(1, 5), 0);
        check.due(x, "court(1) again", x.court(1), 1, 0);
    }

    private void days() {
        SworeCaptain x = Check.told(TWO.replace("trial 1", "trial 3"));
        x.court(0);
        check.due("one draw, till one isn't below it", x.size(12), 74);
        x.undo();
        x.sail(0);
        x.sail(0);
        check.due(x, "74, 24, 52 below 75", x.court(0), 1, 0);
        check.due("three draws", x.size(12), 28652);
        x.undo();
        x.seed(5624);
        check.due(x, "52, 90", x.court(0), 0, 0);
        check.due("two draws", x.size(12), 51790);
    }

    private void seeds() {
        SworeCaptain x = Check.told(TWO);
        for (int v : new int[] {-1, 65537, Integer.MIN_VALUE, Integer.MAX_VALUE}) {
            check.due(x, "seed(" + v + ")", x.seed(v), false, 2);
        }
        check.due("SEED", x.size(12), 0);
        check.due(x, "seed(65536)", x.seed(65536), true, 0);
        check.due("SEED", x.size(12), 65536);
        check.due("no ACT", x.size(13), 0);
        x.court(0);
        check.due("SEED 65,536 goes on to itself", x.size(12), 65536);
        check.due(x, "seed(0)", x.seed(0), true, 0);
        check.due("SEED", x.size(12), 0);
    }

    private void undoing() {
        SworeCaptain x = Check.told(TWO);
        check.due(x, "undo(), nothing", x.undo(), false, 6);
        x.seed(5);
        x.sail(1);
        x.seed(9);
        check.due(x, "undo()", x.undo(), true, 0);
        check.due("SEED is as ahead of the act", x.size(12), 5);
        check.due("the landing", x.size(9), 0);
        check.due("the harbour", x.size(10), 0);
        check.due("acts", x.size(13), 0);
        check.due(x, "undo(), nothing more", x.undo(), false, 6);
        x.sail(2);
        x.court(2);
        check.due("refused acts can't be undone", x.size(13), 0);
    }

    private void sixteen() {
        SworeCaptain x = Check.told(TWO);
        for (int i = 1; i <= 20; i++) {
            x.sail(i % 2);
            check.due("acts kept", x.size(13), Math.min(i, 16));
        }
        for (int i = 19; i >= 4; i--) {
            check.due(x, "undo() to " + i, x.undo(), true, 0);
            check.due("the landing", x.size(9), i);
            check.due("the harbour", x.size(10), i % 2);
        }
        check.due(x, "undo(), the seventeenth", x.undo(), false, 6);
        check.due("the landing stays", x.size(9), 4);
        x.sail(0);
        check.due(x, "undo() once more", x.undo(), true, 0);
        check.due("the landing", x.size(9), 4);
    }

    private void images() {
        SworeCaptain x = Check.told(TWO);
        check.due(x, "back(0), none yet", x.back(0), false, 1);
        check.due(x, "image()", x.image(), 0, 0);
        x.seed(0);
        x.sail(0);
        x.sail(0);
        x.court(0);
        check.due(x, "image() FREED", x.image(), 1, 0);
        check.due("acts stay", x.size(13), 3);
        x.undo();
        x.seed(77);
        check.due(x, "image()", x.image(), 2, 0);
        check.due(x, "image(), no room", x.image(), -1, 3);
        check.due("images", x.size(14), 3);
        check.due(x, "back(3)", x.back(3), false, 1);
        check.due(x, "back(-1)", x.back(-1), false, 1);
        check.due("acts", x.size(13), 2);
        check.due(x, "back(1)", x.back(1), true, 0);
        check.due("FREED by", x.size(11), 0);
        check.due("SEED", x.size(12), 74);
        check.due("the landing", x.size(9), 2);
        check.due("TRIED", x.woman(0, 5), 1);
        check.due("nothing can be undone", x.size(13), 0);
        check.due(x, "undo()", x.undo(), false, 6);
        check.due("all images stay", x.size(14), 3);
        check.due(x, "back(2)", x.back(2), true, 0);
        check.due("SEED", x.size(12), 77);
        check.due("not FREED", x.size(11), -2);
        check.dueLed(x, 1, 3);
        x.sail(1);
        check.due(x, "back(0)", x.back(0), true, 0);
        check.due("the landing", x.size(9), 0);
        check.due("the harbour", x.size(10), 0);
        check.due("SEED", x.size(12), 0);
        check.dueLed(x, 0, Check.THROWS);
        x.sail(1);
        check.due("an image isn't changed by what comes behind it", x.back(0) && x.size(9) == 0, true);
    }

    private void lastLanding() {
        SworeCaptain x = Check.told(TWO);
        for (int i = 1; i <= 30; i++) {
            check.due(x, "sail", x.sail(i % 2), i, 0);
        }
        check.due(x, "sail(0) at landing 30", x.sail(0), -1, 3);
        check.due(x, "sail(2) at landing 30, no sea", x.sail(2), -1, 5);
        check.due(x, "sail(3) at landing 30", x.sail(3), -1, 1);
        check.due("the landing", x.size(9), 30);
        check.due(x, "court(0) at landing 30", x.court(0), 0, 0);
        check.due(x, "undo()", x.undo(), true, 0);
        check.due(x, "soonest(1) at landing 30", x.soonest(1), 31, 0);
        check.due(x, "routes(3) at landing 30", x.routes(3), 0, 0);
        check.due(x, "letters(5) at landing 30", x.letters(5), 0, 0);
    }

    private void sizes() {
        SworeCaptain x = Check.told(Check.EXAMPLE);
        x.undo();
        for (int what : new int[] {-1, 16, Integer.MIN_VALUE, Integer.MAX_VALUE}) {
            check.due("size(" + what + ")", x.size(what), -1);
        }
        check.due("size tells no trouble", x.trouble(), 6);
        check.due("trouble() again", x.trouble(), 6);
        x.love(0, 0);
        check.due("trouble() behind a call that wasn't refused", x.trouble(), 0);
        x.love(0, 31);
        x.feed(1, 1, 1, 1, 1);
        check.due("trouble() behind feed", x.trouble(), 2);
        check.due("size(15)", x.size(15), 20);
    }
}
