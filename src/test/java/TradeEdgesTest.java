/** Promises 28 to 33 at their bounds: bids and parts. */
public final class TradeEdgesTest extends Edges {
    private static final Refusal NO_BID = new Refusal(-100, 2);
    private static final String NO_HANDS = "oath years 9 trial 1;harbour h news 0 worth 0;woman w plain in h heart 1 born 1";

    private TradeEdgesTest() {
        super("TradeEdgesTest");
    }

    public static void main(String[] args) {
        TradeEdgesTest t = new TradeEdgesTest();
        t.promise28();
        t.promise29();
        t.promise30();
        t.promise31();
        t.promise31Rests();
        t.promise32();
        t.promise33();
        t.oneBehindTheOther();
        t.check.end();
    }

    /** bid: "by both's (0 .. 9), of a worth (0 .. 99). -100: 1 (no OATH); 2." */
    private void promise28() {
        bounds(TOLD, "bid(#, 0, 0, true)", 0, 0, 99, 99, NO_BID);
        bounds(TOLD, "bid(#, 0, 9, true)", 0, -9, 99, 90, NO_BID);
        bounds(TOLD, "bid(#, 0, 9, false)", 0, 9, 99, 9, NO_BID);
        bounds(TOLD, "bid(50, #, 9, false)", 0, 9, 9, 9, NO_BID);
        bounds(TOLD, "bid(50, #, 8, true)", 0, 42, 9, 0, NO_BID);
        bounds(TOLD, "bid(50, 0, #, true)", 0, 50, 9, 41, NO_BID);
        bounds(TOLD, "bid(50, 9, #, false)", 0, 0, 9, 9, NO_BID);
        refusesAll(TOLD, -100, 2, "bid(100, 10, 10, true)", "bid(-1, -1, -1, false)", "bid(50, 10, 0, false)", "bid(50, 0, 10, true)");
        // "if the bid is as much": below, as much, above.
        int[][] due = {{0, 0}, {6, 34}, {7, 33}};
        for (int bids = 5; bids <= 7; bids++) {
            answers(TOLD, "bid(40, 6, " + bids + ", false)", due[bids - 5][0]);
            answers(TOLD, "bid(40, 6, " + bids + ", true)", due[bids - 5][1]);
        }
        answers(TOLD, "bid(0, 0, 0, false)", 0);
        answers(FREED, "bid(0, 9, 9, true)", -9);
        answers(LAST, "bid(99, 9, 9, true)", 90);
    }

    /** rests: asked and bid alike, up to the worth; nothing bid and the worth or more asked. NONE: 1 (no OATH); 2. */
    private void promise29() {
        bounds(TOLD, "rests(#)", 0, 10, 99, 10, NUMBER);
        int[] due = {10, 11, 11, 11, 11, 11, 11, 11, 11, 11, 10, 10};
        for (int worth = 0; worth < due.length; worth++) {
            answers(TOLD, "rests(" + worth + ")", due[worth]);
        }
        answers(FREED, "rests(9)", 11);
    }

    /** rest: "The first, by what the father asks, then the bid": nothing asked and nothing bid is one of any worth. */
    private void promise30() {
        bounds(TOLD, "rest(#)", 0, 0, 99, 0, NUMBER);
        for (int worth = 1; worth <= 10; worth++) {
            answers(TOLD, "rest(" + worth + ")", 0);
        }
        answers(FREED, "rest(9)", 0);
    }

    /** part: "of so much (0 .. 999) at a landing: a hand's. NONE: 1; 2." */
    private void promise31() {
        bounds(TOLD, "part(#, 100, 3)", 0, 67, 1, 33, NONE_SUCH);
        bounds(TOLD, "part(0, #, 3)", 0, 0, 999, 666, NUMBER);
        bounds(TOLD, "part(1, #, 3)", 0, 0, 999, 333, NUMBER);
        bounds(TOLD, "part(0, 100, #)", 0, 0, 30, 42, NUMBER);
        // By 1350, 90, 150, 150, 810 of 2550: three are left for those with 2250, 1950, 1950.
        bounds(FULL, "part(#, 999, 30)", 0, 529, 4, 317, NONE_SUCH);
        refusesAll(TOLD, -1, 1, "part(2, 1000, 31)", "part(-1, -1, -1)", "part(5, 0, 0)", "part(32, 1, 1)");
        refusesAll(TOLD, -1, 2, "part(0, 1000, 31)", "part(0, -1, -1)");
        Scene none = new Scene("no hands", NO_HANDS);
        refusesAll(none, -1, 1, "part(0, 0, 0)", "part(0, 1000, 31)", "part(-1, 0, 0)");
        Scene one = new Scene("one hand", NO_HANDS + ";hand a joined 0 part 9");
        answers(one, "part(0, 999, 30)", 999);
        answers(one, "part(0, 1, 1)", 1);
        // "nobody gets any if all are 0"
        answers(one, "part(0, 999, 0)", 0);
        answers(TOLD, "part(0, 999, 0)", 0);
        answers(FREED, "part(0, 999, 1)", 0);
        answers(FREED, "part(0, 999, 2)", 999);
    }

    /** "downwards; what is left one by one to those with the greatest rests, the first of like". */
    private void promise31Rests() {
        // At landing 1 by 45, 0, 5, 5, 0 of 55. Of 6: 4 and 50, 0 and 30 twice; two are left.
        int[] six = {5, 0, 1, 0, 0};
        // Of 999: 817 and 20, 90 and 45 twice; two are left.
        int[] most = {817, 0, 91, 91, 0};
        int[] one = {1, 0, 0, 0, 0};
        for (int hand = 0; hand < 5; hand++) {
            answers(FULL, "part(" + hand + ", 6, 1)", six[hand]);
            answers(FULL, "part(" + hand + ", 999, 1)", most[hand]);
            answers(FULL, "part(" + hand + ", 1, 1)", one[hand]);
            answers(FULL, "part(" + hand + ", 0, 1)", 0);
            answers(FULL, "part(" + hand + ", 55, 1)", new int[] {45, 0, 5, 5, 0}[hand]);
        }
        // Five alike: of 4 the first four have one each; of 9 the last has one, the others two.
        StringBuilder text = new StringBuilder(NO_HANDS);
        for (char name = 'a'; name < 'f'; name++) {
            text.append(";hand ").append(name).append(" joined 0 part 1");
        }
        Scene alike = new Scene("five alike", text.toString());
        for (int hand = 0; hand < 5; hand++) {
            answers(alike, "part(" + hand + ", 4, 1)", hand < 4 ? 1 : 0);
            answers(alike, "part(" + hand + ", 9, 1)", hand < 4 ? 2 : 1);
            answers(alike, "part(" + hand + ", 999, 30)", hand < 4 ? 200 : 199);
        }
        answers(alike, "bestHand(4, 1)", 0);
        answers(alike, "bestHand(1, 1)", 0);
    }

    /** service: "his part times years", 0 if he hasn't joined. NONE: 1; 2. */
    private void promise32() {
        bounds(TOLD, "service(#, 3)", 0, 42, 1, 21, NONE_SUCH);
        bounds(TOLD, "service(0, #)", 0, 0, 30, 420, NUMBER);
        bounds(FULL, "service(#, 13)", 0, 585, 4, 45, NONE_SUCH);
        refusesAll(TOLD, -1, 1, "service(2, 31)", "service(-1, -1)", "service(5, 0)");
        // Joined in year 14: year 7, 14, 21. Joined in year 60 by 5 years: 55, 60, 65.
        answers(TOLD, "service(1, 1)", 0);
        answers(TOLD, "service(1, 2)", 0);
        answers(TOLD, "service(1, 3)", 21);
        answers(FULL, "service(4, 0)", 0);
        answers(FULL, "service(4, 11)", 0);
        answers(FULL, "service(4, 12)", 0);
        answers(FULL, "service(4, 13)", 45);
        Scene most = new Scene("the most", NO_HANDS + ";hand a joined 0 part 9;hand b joined 59 part 1");
        answers(most, "service(0, 30)", 2430);
        answers(most, "service(1, 6)", 0);
        answers(most, "service(1, 7)", 4);
        answers(FREED, "service(0, 2)", 16);
        refuses(new Scene("no hands", NO_HANDS), "service(0, 0)", -1, 1);
    }

    /** bestHand: "the first such; -2 nobody gets any. NONE: 1 (no OATH); 2." */
    private void promise33() {
        bounds(TOLD, "bestHand(#, 3)", 0, -2, 999, 0, NUMBER);
        bounds(TOLD, "bestHand(100, #)", 0, -2, 30, 1, NUMBER);
        refusesAll(TOLD, -1, 2, "bestHand(1000, 31)", "bestHand(-1, 0)");
        answers(TOLD, "bestHand(1, 3)", 0);
        answers(TOLD, "bestHand(999, 0)", -2);
        answers(FULL, "bestHand(1, 1)", 0);
        answers(FULL, "bestHand(0, 30)", -2);
        answers(FREED, "bestHand(999, 1)", -2);
        answers(FREED, "bestHand(999, 2)", 0);
        Scene none = new Scene("no hands", NO_HANDS);
        bounds(none, "bestHand(#, 3)", 0, -2, 999, -2, NUMBER);
        bounds(none, "bestHand(1, #)", 0, -2, 30, -2, NUMBER);
        // The last alone has joined.
        Scene last = new Scene("the last", NO_HANDS + ";hand a joined 60 part 9;hand b joined 60 part 9;hand c joined 8 part 1");
        answers(last, "bestHand(999, 1)", 2);
        answers(last, "bestHand(999, 7)", 2);
        answers(last, "bestHand(999, 8)", 0);
    }

    /** Nothing is left of a question in the next one. */
    private void oneBehindTheOther() {
        run(TOLD.make(), "part(0, 100, 3) = 67", "part(1, 100, 3) = 33", "part(0, 999, 0) = 0", "part(1, 999, 0) = 0", "bestHand(100, 3) = 0",
            "bestHand(100, 0) = -2", "bestHand(100, 30) = 1", "bestHand(0, 30) = -2", "part(0, 1000, 3) = -1 ! 2", "part(0, 0, 3) = 0 ! 0",
            "part(0, 100, 3) = 67");
        run(FULL.make(), "part(2, 6, 1) = 1", "part(3, 6, 1) = 0", "part(2, 6, 1) = 1", "rests(5) = 11", "rests(0) = 10", "rests(5) = 11");
    }
}
