/** Promises 28 to 33: bids and parts. */
public final class TradeTest {
    private final Check check = new Check("TradeTest");
    private final SworeCaptain x = Check.told(Check.EXAMPLE);

    public static void main(String[] args) {
        TradeTest t = new TradeTest();
        t.withoutOath();
        t.bids();
        t.rests();
        t.services();
        t.parts();
        t.manyHands();
        t.check.end();
    }

    private void withoutOath() {
        SworeCaptain y = new SworeCaptain();
        check.due(y, "bid", y.bid(100, 0, 0, true), -100, 1);
        check.due(y, "rests", y.rests(100), -1, 1);
        check.due(y, "rest", y.rest(100), -1, 1);
        check.due(y, "part", y.part(0, 1000, 0), -1, 1);
        check.due(y, "service", y.service(0, 99), -1, 1);
        check.due(y, "bestHand", y.bestHand(1000, 0), -1, 1);
    }

    private void bids() {
        check.due(x, "bid above, father", x.bid(40, 5, 6, false), 6, 0);
        check.due(x, "bid above, captain", x.bid(40, 5, 6, true), 34, 0);
        check.due(x, "bid as much, father", x.bid(40, 6, 6, false), 6, 0);
        check.due(x, "bid as much, captain", x.bid(40, 6, 6, true), 34, 0);
        check.due(x, "bid below, father", x.bid(40, 6, 5, false), 0, 0);
        check.due(x, "bid below, captain", x.bid(40, 6, 5, true), 0, 0);
        check.due(x, "bid beyond the worth", x.bid(0, 0, 9, true), -9, 0);
        check.due(x, "bid of 99", x.bid(99, 0, 0, true), 99, 0);
        int[][] wrong = {{-1, 0, 0}, {100, 0, 0}, {1, -1, 0}, {1, 10, 0}, {1, 0, -1}, {1, 0, 10}};
        for (int[] w : wrong) {
            check.due(x, "bid out of bounds", x.bid(w[0], w[1], w[2], true), -100, 2);
            check.due(x, "bid out of bounds", x.bid(w[0], w[1], w[2], false), -100, 2);
        }
    }

    private void rests() {
        check.due(x, "rests(40)", x.rests(40), 10, 0);
        check.due(x, "rest(40)", x.rest(40), 0, 0);
        check.due(x, "rests(0)", x.rests(0), 10, 0);
        check.due(x, "rest(0)", x.rest(0), 0, 0);
        check.due(x, "rest(99)", x.rest(99), 0, 0);
        // Of worth 5: asked 0 to 5 and as much bid; asked 5 to 9 and nothing bid, but for 0.
        check.due(x, "rests(5)", x.rests(5), 6 + 5, 0);
        check.due(x, "rests(9)", x.rests(9), 10 + 1, 0);
        check.due(x, "rests(10)", x.rests(10), 10, 0);
        check.due(x, "rest(5)", x.rest(5), 0, 0);
        check.due(x, "rests(99)", x.rests(99), 10, 0);
        for (int worth : new int[] {-1, 100, Integer.MIN_VALUE, Integer.MAX_VALUE}) {
            check.due(x, "rests out of bounds", x.rests(worth), -1, 2);
            check.due(x, "rest out of bounds", x.rest(worth), -1, 2);
        }
    }

    private void services() {
        check.due(x, "service(0, 0)", x.service(0, 0), 0, 0);
        check.due(x, "service(0, 3)", x.service(0, 3), 42, 0);
        check.due(x, "service(0, 30)", x.service(0, 30), 420, 0);
        check.due(x, "service(1, 1): he hasn't joined", x.service(1, 1), 0, 0);
        check.due(x, "service(1, 2): he has just", x.service(1, 2), 0, 0);
        check.due(x, "service(1, 3)", x.service(1, 3), 21, 0);
        check.due(x, "service(2, 31)", x.service(2, 31), -1, 1);
        check.due(x, "service(-1, 0)", x.service(-1, 0), -1, 1);
        check.due(x, "service(0, 31)", x.service(0, 31), -1, 2);
        check.due(x, "service(0, -1)", x.service(0, -1), -1, 2);
    }

    private void parts() {
        check.due(x, "part(0, 100, 3)", x.part(0, 100, 3), 67, 0);
        check.due(x, "part(1, 100, 3)", x.part(1, 100, 3), 33, 0);
        check.due(x, "part(0, 1, 3)", x.part(0, 1, 3), 1, 0);
        check.due(x, "part(1, 1, 3)", x.part(1, 1, 3), 0, 0);
        check.due(x, "part(0, 0, 3)", x.part(0, 0, 3), 0, 0);
        check.due(x, "part(0, 999, 0): all are 0", x.part(0, 999, 0), 0, 0);
        check.due(x, "part(0, 999, 1)", x.part(0, 999, 1), 999, 0);
        check.due(x, "part(0, 1000, 1)", x.part(0, 1000, 1), -1, 2);
        check.due(x, "part(0, -1, 1)", x.part(0, -1, 1), -1, 2);
        check.due(x, "part(0, 1, 31)", x.part(0, 1, 31), -1, 2);
        check.due(x, "part(0, 1, -1)", x.part(0, 1, -1), -1, 2);
        check.due(x, "part(2, 1000, 31)", x.part(2, 1000, 31), -1, 1);
        check.due(x, "part(-1, 0, 0)", x.part(-1, 0, 0), -1, 1);
        check.due(x, "bestHand(100, 3)", x.bestHand(100, 3), 0, 0);
        check.due(x, "bestHand(0, 3)", x.bestHand(0, 3), -2, 0);
        check.due(x, "bestHand(999, 0)", x.bestHand(999, 0), -2, 0);
        check.due(x, "bestHand(1000, 3)", x.bestHand(1000, 3), -1, 2);
        check.due(x, "bestHand(-1, 3)", x.bestHand(-1, 3), -1, 2);
        check.due(x, "bestHand(1, 31)", x.bestHand(1, 31), -1, 2);
        check.due(x, "bestHand(1, -1)", x.bestHand(1, -1), -1, 2);
    }

    private void manyHands() {
        String text = "oath years 7 trial 1;harbour h news 0 worth 0;woman w plain in h heart 1 born 1";
        SworeCaptain none = Check.told(text);
        check.due(none, "bestHand without hands", none.bestHand(100, 3), -2, 0);
        check.due(none, "part without hands", none.part(0, 100, 3), -1, 1);
        SworeCaptain one = Check.told(text + ";hand a joined 6 part 1;hand b joined 60 part 9");
        check.due(one, "part, one year in all", one.part(0, 7, 1), 7, 0);
        check.due(one, "bestHand, one year in all", one.bestHand(7, 1), 0, 0);

        // Services 7, 7, 7, 14, 0 of 35 at landing 1; of 4: 0.8, 0.8, 0.8, 1.6, 0: three are left for the first three.
        SworeCaptain y = Check.told(text + ";hand a joined 0 part 1;hand b joined 0 part 1;hand c joined 0 part 1;"
            + "hand d joined 0 part 2;hand e joined 7 part 9");
        int[] four = {1, 1, 1, 1, 0};
        int[] two = {1, 0, 0, 1, 0};
        int[] hundred = {20, 20, 20, 40, 0};
        for (int i = 0; i < 5; i++) {
            check.due(y, "of four, hand " + i, y.part(i, 4, 1), four[i], 0);
            // Of 2: 0.4, 0.4, 0.4, 0.8, 0: the fourth first, then the first of like ones.
            check.due(y, "of two, hand " + i, y.part(i, 2, 1), two[i], 0);
            check.due(y, "of a hundred, hand " + i, y.part(i, 100, 1), hundred[i], 0);
        }
        check.due(y, "bestHand, the first of like ones", y.bestHand(4, 1), 0, 0);
        check.due(y, "bestHand of one", y.bestHand(1, 1), 3, 0);
        check.due(y, "bestHand of a hundred", y.bestHand(100, 1), 3, 0);
        // At landing 3 the fifth goes by 9 times 14, the others by 21, 21, 21, 42.
        check.due(y, "bestHand later", y.bestHand(100, 3), 4, 0);
    }
}
