import java.nio.charset.StandardCharsets;
import java.util.Arrays;

/** Promises 1 to 5 at their bounds: a new object, feed, oath, fault, where. */
public final class OathEdgesTest extends Edges {
    private static final String LONE = "oath years 5 trial 1;harbour h news 1 worth 1;woman w plain in h heart 1 born 1";

    /** Every call of which a number is told, so that each is once refused by 1. */
    private static final String[] WITHOUT_OATH = {"harbour(0, 0)", "woman(0, 0)", "love(0, 0)", "isTrue(0, 0, false)",
        "isTrue(0, 0, true)", "bestLanding(0)", "ofAge(0)", "alone(0, 0)", "present(0)", "belle(0, 0)", "sevens(0, 0)",
        "byYears(0, 0, 5)", "bestYears(0)", "route(1, false)", "route(1, true)", "mean(1, false)", "mean(1, true)", "routeAt(1, 0)",
        "routes(1)", "letters(0)", "lettersAt(1, 0)", "lost()", "soonest(0)", "bells()", "rests(0)", "rest(0)", "part(0, 0, 0)",
        "service(0, 0)", "bestHand(0, 0)", "rows()", "could(0)", "surely(0)", "firstOf(0)", "ask()", "askLeaves()", "judge()",
        "life(0, 0)", "lifeBy(0, 0)", "lives(0, 1)", "sail(0)", "court(0)", "image()"};

    /** The same with numbers out of bounds: 1 is told ahead of 2. */
    private static final String[] WITHOUT_OATH_OR_BOUNDS = {"harbour(-1, 9)", "woman(-1, 9)", "love(0, 31)", "isTrue(0, -1, false)",
        "alone(0, 31)", "present(31)", "present(-1)", "belle(0, 31)", "byYears(0, 31, 4)", "bestYears(31)", "bestYears(-1)",
        "route(0, false)", "route(4, true)", "mean(0, true)", "mean(4, false)", "routeAt(4, 9)", "routes(0)", "routes(4)",
        "letters(-1)", "letters(6)", "lettersAt(6, 9)", "rests(100)", "rests(-1)", "rest(100)", "rest(-1)", "part(0, 1000, 31)",
        "service(0, 31)", "bestHand(1000, 0)", "bestHand(0, 31)", "life(-1, 0)", "life(0, 21)", "lifeBy(65537, 0)", "lives(0, 0)",
        "lives(0, 31)", "lives(-1, 1)"};

    private OathEdgesTest() {
        super("OathEdgesTest");
    }

    public static void main(String[] args) {
        OathEdgesTest t = new OathEdgesTest();
        t.newObject();
        t.withoutOath(NO_OATH);
        t.withoutOath(FAULTED);
        t.feedHighestFirst();
        t.feedUpTo900();
        t.feedLeavesTrouble();
        t.oathRefusedByNumber();
        t.oathAtTheBoundsOfN();
        t.oathOfSomeOfTheTape();
        t.oathBeginsAnew();
        t.nothingStaysOfTexts();
        t.oathRefusedByFault();
        t.faultOfTheLatest();
        t.whereBehindEachCall();
        t.check.end();
    }

    /** Promise 1: "No OATH." */
    private void newObject() {
        SworeCaptain x = new SworeCaptain();
        check.due("trouble()", x.trouble(), 0);
        check.due("fault()", x.fault(), 0);
        check.due("where()", x.where(), -1);
        for (int what = 0; what <= 15; what++) {
            check.due("size(" + what + ")", x.size(what), 0);
        }
        check.dueLed(x, 0, THROWS);
        check.dueLed(x, -1, THROWS);
        SworeCaptain other = Check.told(LONE);
        other.sail(0);
        check.due("another object's OATH is its own", x.size(0) + x.size(9), 0);
    }

    /** "NONE: 1 (no OATH)", of all calls that it is told of; and 6 of undo(), there being no acts. */
    private void withoutOath(Scene scene) {
        refusesAll(scene, -1, 1, WITHOUT_OATH);
        refusesAll(scene, -1, 1, WITHOUT_OATH_OR_BOUNDS);
        refusesAll(scene, -1000, 1, "age(0, 0)", "age(0, 31)", "age(-1, -1)");
        refusesAll(scene, -100, 1, "bid(0, 0, 0, false)", "bid(0, 0, 0, true)", "bid(100, 0, 0, true)", "bid(0, 10, -1, false)");
        refusesAll(scene, 0, 1, "seed(0)", "seed(65536)", "seed(-1)", "seed(65537)", "back(0)", "back(-1)", "back(3)");
        refuses(scene, "undo()", 0, 6);
    }

    /** Promise 2: "Twenty bytes come behind THE TAPE, of each number the highest first". */
    private void feedHighestFirst() {
        for (int place = 0; place < 20; place++) {
            for (int sign : new int[] {'x', '!', 0, 127, 128, 200, 255}) {
                SworeCaptain x = new SworeCaptain();
                StringBuilder text = new StringBuilder(" ".repeat(20));
                text.setCharAt(place, (char) sign);
                Check.feed(x, text.toString());
                check.due(x, "oath(20)", x.oath(20), -1, 4);
                check.due("fault() of byte " + sign, x.fault(), 1);
                check.due("where() of byte " + sign, x.where(), place);
            }
        }
        SworeCaptain x = new SworeCaptain();
        int blanks = 0x20202020;
        run(x, "feed(MIN, MAX, -1, 0, 1) = 20", "oath(20) = -1 ! 4", "where() = 0");
        check.due("feed behind an empty tape", x.feed(blanks, blanks, blanks, blanks, -1), 20);
        check.due("feed behind it", x.feed(-1, -1, -1, -1, -1), 40);
        run(x, "oath(16) = -1 ! 4", "where() = 16", "size(15) = 0");
        x.feed(blanks, blanks, blanks, blanks, -1);
        run(x, "oath(17) = -1 ! 4", "where() = 16");
    }

    /** "how many it has; NONE, and none comes, if there would be more than 900". */
    private void feedUpTo900() {
        StringBuilder text = new StringBuilder(LONE.substring(0, LONE.length() - 1));
        while (text.length() < 899) {
            text.append(' ');
        }
        text.append('7');
        SworeCaptain x = new SworeCaptain();
        byte[] bytes = text.toString().getBytes(StandardCharsets.ISO_8859_1);
        for (int fed = 20; fed <= 900; fed += 20) {
            Check.feed(x, Arrays.copyOfRange(bytes, fed - 20, fed));
            check.due("size(15)", x.size(15), fed);
        }
        run(x, "feed(1, 2, 3, 4, 5) = -1 ! 0", "size(15) = 900", "feed(MIN, MIN, MIN, MIN, MIN) = -1 ! 0", "oath(901) = -1 ! 2",
            "size(15) = 900", "oath(900) = 1 ! 0", "woman(0, 3) = 7", "size(15) = 0", "feed(1, 2, 3, 4, 5) = 20");
        SworeCaptain y = new SworeCaptain();
        for (int i = 1; i <= 44; i++) {
            y.feed(i, i, i, i, i);
        }
        run(y, "size(15) = 880", "feed(1, 1, 1, 1, 1) = 900", "feed(1, 1, 1, 1, 1) = -1", "oath(0) = -1 ! 4", "size(15) = 0");
    }

    /** No number is told of feed: it isn't a call that may be refused, and TROUBLE stays. */
    private void feedLeavesTrouble() {
        SworeCaptain x = new SworeCaptain();
        run(x, "oath(1) = -1 ! 2", "feed(0, 0, 0, 0, 0) = 20 ! 2", "undo() = 0 ! 6", "feed(0, 0, 0, 0, 0) = 40 ! 6");
        for (int i = 3; i <= 45; i++) {
            x.feed(0, 0, 0, 0, 0);
        }
        run(x, "feed(0, 0, 0, 0, 0) = -1 ! 6", "oath(900) = -1 ! 4", "where() = 0", "feed(0, 0, 0, 0, 0) = 20 ! 4", "where() = 0");
    }

    /** Promise 3: "NONE: 2 (THE TAPE stays)". The scenes have 100 bytes on it. */
    private void oathRefusedByNumber() {
        for (Scene scene : new Scene[] {NO_OATH, FAULTED, TOLD, UNDER_WAY, FREED, LAST, FULL}) {
            refusesAll(scene, -1, 2, "oath(101)", "oath(-1)", "oath(900)", "oath(901)", "oath(MIN)", "oath(MAX)");
        }
        SworeCaptain x = new SworeCaptain();
        run(x, "oath(1) = -1 ! 2", "fault() = 0", "where() = -1", "oath(-1) = -1 ! 2", "oath(0) = -1 ! 4", "fault() = 1", "where() = 0");
        Check.feed(x, " ".repeat(20));
        run(x, "oath(0) = -1 ! 4", "fault() = 1", "where() = 0", "size(15) = 0");
    }

    /** n from 0 to as many bytes as THE TAPE has; "how many women", 1 to 8. */
    private void oathAtTheBoundsOfN() {
        SworeCaptain x = TOLD.make();
        run(x, "size(15) = 100", "oath(100) = 1 ! 0", "size(15) = 0", "size(0) = 9", "oath(1) = -1 ! 2", "oath(0) = -1 ! 4", "size(0) = 9");
        check.due("women, full", Check.tell(new SworeCaptain(), FULL_TEXT), 8);
        check.due("women, one", Check.tell(new SworeCaptain(), LONE), 1);
        check.due("women, of the example", Check.tell(new SworeCaptain(), Check.EXAMPLE), 4);
    }

    /** "The first n bytes of THE TAPE (it is empty then)". */
    private void oathOfSomeOfTheTape() {
        SworeCaptain x = new SworeCaptain();
        Check.feed(x, LONE + "2;harbour");
        check.due(x, "oath of the first bytes", x.oath(LONE.length()), 1, 0);
        run(x, "woman(0, 3) = 1", "size(15) = 0", "oath(1) = -1 ! 2");
        Check.feed(x, LONE + "2;harbour");
        check.due(x, "oath of one byte more", x.oath(LONE.length() + 1), 1, 0);
        run(x, "woman(0, 3) = 12");
        Check.feed(x, LONE + "2;harbour");
        check.due(x, "oath of two bytes more", x.oath(LONE.length() + 2), -1, 4);
        check.due("where(), the end", x.where(), LONE.length() + 2);
        run(x, "woman(0, 3) = 12", "size(15) = 0");
    }

    /** "(landing 0, nobody TRIED, no letter brought, SEED 0; nothing to undo, no IMAGES)". */
    private void oathBeginsAnew() {
        String[] begun = {"size(9) = 0", "size(10) = 0", "size(11) = -2", "size(12) = 0", "size(13) = 0", "size(14) = 0", "size(15) = 0",
            "woman(0, 5) = 0", "led(0) = throws", "undo() = 0 ! 6", "back(0) = 0 ! 1", "image() = 0 ! 0"};
        for (Scene scene : new Scene[] {NO_OATH, FAULTED, TOLD, UNDER_WAY, FREED, LAST, FULL}) {
            SworeCaptain x = scene.make();
            run(x, "oath(100) = 1 ! 0", "fault() = 0", "where() = -1", "size(0) = 9", "size(1) = 3", "size(2) = 1", "size(3) = 0",
                "size(4) = 1", "size(5) = 0", "size(6) = 0", "size(7) = 0", "size(8) = 0", "harbour(0, 2) = 0", "woman(0, 4) = 0");
            run(x, begun);
        }
        // The same text told again: as many women, rivals and letters, but nothing of what was done.
        SworeCaptain x = Check.told(SMALL);
        run(x, "seed(5) = 1", "sail(1) = 1", "image() = 0", "sail(0) = 2", "court(0) = 1", "size(11) = 0", "led(0) = 1");
        check.due(x, "the same OATH again", Check.tell(x, SMALL), 1, 0);
        run(x, begun);
        run(x, "lost() = 0", "letters(2) = 2");
    }

    /** Neither of the OATHS ahead nor of a text with a FAULT is anything left in the next one. */
    private void nothingStaysOfTexts() {
        for (String ahead : new String[] {FULL_TEXT, FULL_TEXT + ";", FULL_TEXT.substring(0, FULL_TEXT.length() - 1), Check.EXAMPLE + ";oath"}) {
            SworeCaptain x = new SworeCaptain();
            for (int i = 0; i < 3; i++) {
                Check.tell(x, ahead);
                check.due(x, "the small one", Check.tell(x, LONE.replace(" w ", " g ").replace(" h ", " a ")), 1, 0);
                run(x, "size(0) = 5", "size(1) = 1", "size(2) = 1", "size(3) = 0", "size(4) = 1", "size(5) = 0", "size(6) = 0", "size(7) = 0",
                    "size(8) = 0", "harbour(0, 0) = 1", "harbour(0, 1) = 1", "harbour(0, 2) = 0", "harbour(0, 3) = 1", "woman(0, 0) = 0",
                    "woman(0, 2) = 1", "woman(0, 4) = 0", "harbour(1, 0) = -1 ! 1", "woman(1, 0) = -1 ! 1", "lost() = 0", "judge() = -2");
            }
        }
    }

    /** "NONE: .. 4 (the OATH stays)", and all that is NOW by it; THE TAPE is empty. */
    private void oathRefusedByFault() {
        for (Scene scene : new Scene[] {NO_OATH, FAULTED, TOLD, UNDER_WAY, FREED, LAST, FULL}) {
            for (int n : new int[] {0, 3, 20, 99}) {
                SworeCaptain x = scene.make();
                SworeCaptain y = scene.make();
                if (n == 99) {
                    Check.feed(x, ";");
                }
                check.due(x, scene + ": a faulty oath", x.oath(n == 99 ? 120 : n), -1, 4);
                check.due("THE TAPE is empty", x.size(15), 0);
                for (int what = 0; what <= 14; what++) {
                    check.due(scene + ": size(" + what + ") stays", x.size(what), y.size(what));
                }
                for (int w = 0; w < y.size(4); w++) {
                    check.due(scene + ": TRIED stays", x.woman(w, 5), y.woman(w, 5));
                    check.due(scene + ": LOVE stays", x.love(w, 4), y.love(w, 4));
                }
                for (int h = 0; h < y.size(2); h++) {
                    check.due(scene + ": seas stay", x.harbour(h, 2), y.harbour(h, 2));
                }
                check.due(scene + ": letters stay", x.lost(), y.lost());
                int acts = y.size(13);
                for (int i = 0; i < acts; i++) {
                    check.due(scene + ": what can be undone stays", x.undo(), y.undo());
                    check.due(scene + ": SEED of an act stays", x.size(12), y.size(12));
                }
                check.due(x, scene + ": no more can be undone", x.undo(), false, 6);
                int images = y.size(14);
                for (int i = 0; i < images; i++) {
                    check.due(scene + ": images stay", x.back(i), y.back(i));
                    check.due(scene + ": an image's landing stays", x.size(9), y.size(9));
                }
            }
        }
    }

    /** Promise 4: "The FAULT of the latest oath() not refused by 2; 0 without one." */
    private void faultOfTheLatest() {
        SworeCaptain x = new SworeCaptain();
        run(x, "fault() = 0 ! 0", "oath(1) = -1 ! 2", "fault() = 0 ! 2");
        String[] texts = {"what", LONE + ";sea h x", LONE + ";oath", LONE + ";letter h by 6", FULL_TEXT + ";letter a by 1", "sea"};
        for (int fault = 1; fault <= 6; fault++) {
            check.due(x, "a faulty oath", Check.tell(x, texts[fault - 1]), -1, 4);
            check.due("fault()", x.fault(), fault);
            run(x, "oath(1) = -1 ! 2", "oath(-1) = -1 ! 2", "undo() = 0", "size(0) = 0");
            check.due("fault() behind one refused by 2, and other calls", x.fault(), fault);
        }
        run(x, "feed(1, 1, 1, 1, 1) = 20", "fault() = 6", "oath(21) = -1 ! 2", "fault() = 6");
        check.due(x, "a good one behind what stood on the tape", Check.tell(x, LONE), -1, 4);
        run(x, "fault() = 1");
        check.due(x, "a good one", Check.tell(x, LONE), 1, 0);
        run(x, "fault() = 0", "oath(1) = -1 ! 2", "fault() = 0");
    }

    /** Promise 5: "Its place, if the latest call that may be refused was by 4; NONE else." */
    private void whereBehindEachCall() {
        String[] stays = {"feed(1, 1, 1, 1, 1)", "fault()", "where()", "led(0)", "led(-1)", "size(0)", "size(16)", "trouble()"};
        for (String call : stays) {
            SworeCaptain x = faultyAt29();
            Call.of(call).on(x);
            check.due("trouble() behind " + call, x.trouble(), 4);
            check.due("where() behind " + call, x.where(), 29);
        }
        String[] others = {"age(0, 0)", "age(-1, 0)", "bid(0, 0, 0, true)", "bid(-1, 0, 0, true)", "seed(0)", "seed(-1)", "undo()", "back(0)",
            "sail(9)", "court(9)", "oath(-1)", "oath(21)"};
        for (String[] calls : new String[][] {WITHOUT_OATH, WITHOUT_OATH_OR_BOUNDS, others}) {
            for (String call : calls) {
                SworeCaptain x = faultyAt29();
                Call.of(call).on(x);
                check.due("where() behind " + call, x.where(), -1);
                check.due("fault() behind " + call, x.fault(), 1);
            }
        }
        SworeCaptain x = faultyAt29();
        run(x, "where() = 29", "where() = 29", "undo() = 0 ! 6", "where() = -1", "oath(0) = -1 ! 4", "where() = 0");
        check.due(x, "a good one", Check.tell(x, LONE), 1, 0);
        run(x, "where() = -1");
    }

    /** By the example, behind a faulty oath. */
    private static SworeCaptain faultyAt29() {
        SworeCaptain x = Check.told(Check.EXAMPLE);
        Check.tell(x, "oath years 5 trial 1;harbour sea");
        return x;
    }
}
