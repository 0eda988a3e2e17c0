import java.util.Arrays;

/** What the tests of boundary cases share: scenes, and calls held against what is due in them. */
abstract class Edges {
    static final String SMALL = "oath years 8 trial 1;harbour h news 0 worth 0;harbour g news 0 worth 0;sea h g;"
        + "woman a proud in h heart 99 born 0;letter h by 1;letter g by 5;hand n joined 8 part 2;nearly landing 2 age 16";

    /** As many of each sort as there is room for; blanks are left out where TOKENS part without them. */
    static final String FULL_TEXT = "oath years5trial3;harbour a news0worth99;harbour b news100worth0;harbour c news0worth0;"
        + "harbour d news0worth0;harbour e news0worth0;harbour f news0worth0;sea a b;sea a c;sea a d;sea a e;sea a f;sea b c;"
        + "sea c d;sea d e;sea e f;sea f b;woman g proud in a heart99born0;woman h plain in b heart99born60;"
        + "woman i sold in a heart0born0;woman j half in b heart99born0;woman k proud in a heart0born60;"
        + "woman l plain in a heart99born0;woman m sold in b heart99born0;woman n proud in f heart1born0;"
        + "rival l odds0;rival l odds0;rival l odds0;rival l odds0;rival l odds0;rival l odds0;rival l odds0;rival l odds50;"
        + "letter a by5;letter b by5;letter c by5;letter d by5;letter e by5;letter f by5;hand o joined0part9;"
        + "hand p joined60part1;hand q joined0part1;hand r joined0part1;hand s joined60part9;nearly landing4age20;"
        + "nearly landing8age40;nearly landing5age25;nearly landing6age30";

    static final Scene NO_OATH = new Scene("no OATH", null);
    static final Scene FAULTED = new Scene("no OATH, a FAULT", null, "feed(1868657768, 0, 0, 0, 0)", "oath(20)");
    static final Scene TOLD = new Scene("told", Check.EXAMPLE);
    /** At landing 3 in bay, bea TRIED, two of three letters brought, two images, four acts. */
    static final Scene UNDER_WAY = new Scene("under way", Check.EXAMPLE, "seed(7)", "sail(1)", "image()", "court(1)", "sail(2)",
        "image()", "seed(9)", "sail(1)");
    /** At landing 2 in h, FREED by a: the first DRAW is 74; the letter to h was brought. */
    static final Scene FREED = new Scene("FREED", SMALL, "image()", "sail(0)", "sail(0)", "court(0)");
    static final Scene FULL = new Scene("full", FULL_TEXT);
    /** At landing 30 in h, 16 acts to undo, three images. */
    static final Scene LAST = new Scene("landing 30", SMALL, sailing(30, "image()", "sail(1)", "image()", "image()"));

    static final int THROWS = Check.THROWS;

    final Check check;

    Edges(String name) {
        check = new Check(name);
    }

    /** So many landings in h, behind the first of them some other calls (one of which sails). */
    private static String[] sailing(int landings, String... others) {
        String[] calls = new String[landings - 1 + others.length];
        Arrays.fill(calls, "sail(0)");
        System.arraycopy(others, 0, calls, 1, others.length);
        return calls;
    }

    /** The call is refused: its answer, what trouble() tells behind it, and nothing is otherwise. */
    final void refuses(Scene scene, String call, long answer, int trouble) {
        holds(scene, call, answer, trouble);
    }

    /** The call is a question that isn't refused: it changes nothing either. */
    final void answers(Scene scene, String call, long answer) {
        holds(scene, call, answer, 0);
    }

    private void holds(Scene scene, String call, long answer, int trouble) {
        SworeCaptain x = scene.make();
        String where = scene + ": " + call;
        check.due(x, where, Call.of(call).on(x), answer, trouble);
        String changed = scene.changed(x);
        check.due(where + " changes nothing; but " + changed, changed.isEmpty(), true);
    }

    final void refusesAll(Scene scene, long answer, int trouble, String... calls) {
        for (String call : calls) {
            refuses(scene, call, answer, trouble);
        }
    }

    /**
     * A number (# in the call) with its bounds: the first and the last that are taken with their answers, and
     * those just outside and farthest off, which are refused.
     */
    final void bounds(Scene scene, String call, int least, long first, int most, long last, Refusal refusal) {
        answers(scene, put(call, least), first);
        answers(scene, put(call, most), last);
        outside(scene, call, least, most, refusal);
    }

    final void outside(Scene scene, String call, int least, int most, Refusal refusal) {
        for (int wrong : new int[] {least - 1, most + 1, Integer.MIN_VALUE, Integer.MAX_VALUE}) {
            refuses(scene, put(call, wrong), refusal.answer, refusal.trouble);
        }
    }

    private static String put(String call, int value) {
        return call.replace("#", Integer.toString(value));
    }

    record Refusal(long answer, int trouble) { }

    static final Refusal NONE_SUCH = new Refusal(-1, 1);
    static final Refusal NUMBER = new Refusal(-1, 2);

    /** Calls one behind the other on one object, each told as "call = answer", or "call = answer ! trouble". */
    final void run(SworeCaptain x, String... rows) {
        for (String row : rows) {
            String[] call = row.split(" = ");
            String[] due = call[1].split(" ! ");
            check.due(row, Call.of(call[0]).on(x), due[0].equals("throws") ? THROWS : Long.parseLong(due[0]));
            if (due.length > 1) {
                check.due("trouble() behind " + row, x.trouble(), Integer.parseInt(due[1]));
            }
        }
    }
}
