/** Promises 1 to 5: a new object, THE TAPE, texts and their FAULTS. */
public final class OathTest {
    private static final String SWORN = "oath years 5 trial 1";
    private static final String BASE = SWORN + ";harbour h news 1 worth 1;harbour g news 1 worth 1";
    private static final String FULL = BASE + ";woman w plain in h heart 1 born 1";

    private final Check check = new Check("OathTest");

    public static void main(String[] args) {
        OathTest t = new OathTest();
        t.newObject();
        t.tape();
        t.telling();
        t.faultsStayApart();
        t.forms();
        t.tokens();
        t.names();
        t.bounds();
        t.many();
        t.lacks();
        t.longText();
        t.cutText();
        t.tellingAgain();
        t.check.end();
    }

    private void newObject() {
        SworeCaptain x = new SworeCaptain();
        for (int what = 0; what <= 15; what++) {
            check.due("new size(" + what + ")", x.size(what), 0);
        }
        check.due("new size(-1)", x.size(-1), -1);
        check.due("new size(16)", x.size(16), -1);
        check.due("new trouble()", x.trouble(), 0);
        check.due("new fault()", x.fault(), 0);
        check.due("new where()", x.where(), -1);
        check.due("NONE", SworeCaptain.NONE, -1);
        check.due("a faulty first oath", Check.tell(x, "what"), -1);
        check.due("size(11) behind a faulty first oath", x.size(11), 0);
    }

    private void tape() {
        SworeCaptain x = new SworeCaptain();
        x.undo();
        check.due("feed", x.feed(0, -1, Integer.MIN_VALUE, Integer.MAX_VALUE, 1), 20);
        check.due("feed tells no trouble", x.trouble(), 6);
        for (int i = 2; i <= 45; i++) {
            check.due("feed " + i, x.feed(i, i, i, i, i), 20 * i);
        }
        check.due("size(15)", x.size(15), 900);
        check.due("feed 46", x.feed(1, 2, 3, 4, 5), -1);
        check.due("feed 46 tells no trouble", x.trouble(), 6);
        check.due("size(15) behind it", x.size(15), 900);
        check.due(x, "oath(901)", x.oath(901), -1, 2);
        check.due("the tape stays", x.size(15), 900);
        check.due(x, "oath(900)", x.oath(900), -1, 4);
        check.due("the tape is empty", x.size(15), 0);
        check.due("feed once more", x.feed(1, 2, 3, 4, 5), 20);

        // The highest byte of each number is the first: "oath years 5 trial 4" has its FAULT at the last byte.
        SworeCaptain y = new SworeCaptain();
        y.feed(0x6f617468, 0x20796561, 0x72732035, 0x20747269, 0x616c2034);
        y.oath(20);
        check.due("order of bytes, fault()", y.fault(), 4);
        check.due("order of bytes, where()", y.where(), 19);
    }

    private void telling() {
        SworeCaptain x = new SworeCaptain();
        check.due(x, "oath(-1)", x.oath(-1), -1, 2);
        check.due(x, "oath(1) of nothing", x.oath(1), -1, 2);
        check.due(x, "oath(MIN)", x.oath(Integer.MIN_VALUE), -1, 2);
        check.due("fault() behind 2", x.fault(), 0);
        check.due("where() behind 2", x.where(), -1);
        check.due(x, "oath(0)", x.oath(0), -1, 4);
        check.due("fault() of nothing", x.fault(), 1);
        check.due("where() of nothing", x.where(), 0);

        Check.feed(x, Check.EXAMPLE + ";nearly and what comes behind");
        check.due(x, "oath of the example", x.oath(Check.EXAMPLE.length()), 4, 0);
        check.due("fault()", x.fault(), 0);
        check.due("size(15)", x.size(15), 0);
        int[] sizes = {7, 1, 3, 2, 4, 3, 3, 2, 2, 0, 0, -2, 0, 0, 0, 0};
        for (int what = 0; what < sizes.length; what++) {
            check.due("size(" + what + ")", x.size(what), sizes[what]);
        }

        x.seed(99);
        x.sail(1);
        x.image();
        x.court(1);
        check.due("another oath", Check.tell(x, FULL), 1);
        int[] anew = {5, 1, 2, 0, 1, 0, 0, 0, 0, 0, 0, -2, 0, 0, 0, 0};
        for (int what = 0; what < anew.length; what++) {
            check.due("anew size(" + what + ")", x.size(what), anew[what]);
        }
        check.due("nobody TRIED", x.woman(0, 5), 0);
        check.due("no sea of the oath ahead", x.harbour(0, 2), 0);
        check.dueLed(x, 0, Check.THROWS);
        check.due(x, "nothing to undo", x.undo(), false, 6);
        check.due(x, "no images", x.back(0), false, 1);
    }

    private void faultsStayApart() {
        SworeCaptain x = Check.told(Check.EXAMPLE);
        x.seed(5);
        x.sail(1);
        check.due(x, "a faulty oath", Check.tell(x, SWORN + ";what"), -1, 4);
        check.due("fault()", x.fault(), 1);
        check.due("where()", x.where(), 21);
        check.due("where() again", x.where(), 21);
        x.feed(1, 1, 1, 1, 1);
        check.due("where() behind feed", x.where(), 21);
        check.due("size tells no trouble", x.size(99), -1);
        check.due("where() behind size", x.where(), 21);
        check.due("the oath stays", x.size(4), 4);
        check.due("the landing stays", x.size(9), 1);
        check.due("what can be undone stays", x.size(13), 1);
        check.due(x, "oath(21), refused by 2", x.oath(21), -1, 2);
        check.due("where() behind 2", x.where(), -1);
        check.due("fault() is of the one not refused by 2", x.fault(), 1);
        x.oath(20);
        check.due("where() of the next", x.where(), 0);
        check.due("love(0, 3)", x.love(0, 3), 30);
        check.due("where() behind a call that wasn't refused", x.where(), -1);
        check.due("fault() stays", x.fault(), 1);
        Check.tell(x, FULL);
        check.due("fault() of a good one", x.fault(), 0);
    }

    private void faulty(String text, int fault, int place) {
        SworeCaptain x = new SworeCaptain();
        check.due(x, "oath of '" + text + "'", Check.tell(x, text), -1, 4);
        check.due("fault() of '" + text + "'", x.fault(), fault);
        check.due("where() of '" + text + "'", x.where(), place);
    }

    /** FAULT at the beginning of the last LINE's piece told behind the text ahead. */
    private void faultyBehind(String ahead, String piece, int fault) {
        int at = ahead.length();
        while (at < ahead.length() + piece.length() && piece.charAt(at - ahead.length()) == ' ') {
            at++;
        }
        faulty(ahead + piece, fault, at);
        faulty(ahead + piece + " and more;", fault, at);
    }

    private void good(String text, int women) {
        SworeCaptain x = new SworeCaptain();
        check.due("oath of '" + text + "'", Check.tell(x, text), women);
    }

    private void forms() {
        faulty("   ", 1, 3);
        faulty(";", 1, 0);
        faulty("7", 1, 0);
        faulty("years", 1, 0);
        faulty("oath", 1, 4);
        faulty("oath ", 1, 5);
        faulty("oath year 5", 1, 5);
        faulty("oath 5", 1, 5);
        faulty("oath years", 1, 10);
        faulty("oath years five", 1, 11);
        faulty("oath years 5;", 1, 12);
        faulty(SWORN + " 1", 1, 21);
        faulty(SWORN + ";", 1, 21);
        faulty(SWORN + " ; ", 1, 23);
        faulty(SWORN + ";;", 1, 21);
        faulty(FULL + ";", 1, FULL.length() + 1);
        faulty(FULL + " woman", 1, FULL.length() + 1);
        faulty(FULL + ";plain", 1, FULL.length() + 1);
        faultyBehind(SWORN + ";harbour h", " worth", 1);
        faultyBehind(SWORN + ";harbour h news 1", " news", 1);
        faultyBehind(SWORN + ";harbour", " 1", 1);
        faultyBehind(BASE + ";sea h", ";", 1);
        faultyBehind(BASE + ";sea h g", " g", 1);
        faultyBehind(BASE + ";woman w", " shy", 1);
        faultyBehind(BASE + ";woman w", " 1", 1);
        faultyBehind(BASE + ";woman w", " years", 1);
        faultyBehind(BASE + ";woman w", " oath", 1);
        faultyBehind(BASE + ";woman w plain", " at", 1);
        faultyBehind(BASE + ";woman w plain in h", " born", 1);
        faultyBehind(BASE + ";woman w plain in h heart 1", " heart", 1);
        faultyBehind(FULL + ";rival w", " 1", 1);
        faultyBehind(FULL + ";letter h", " at", 1);
        faultyBehind(FULL + ";hand n", " part", 1);
        faultyBehind(FULL + ";hand n joined 1", " joined", 1);
        faultyBehind(FULL + ";nearly", " n", 1);
        faultyBehind(FULL + ";nearly landing 1", " born", 1);
    }

    private void tokens() {
        good("oath years5trial1;harbour h news1worth1;woman w plain in h heart9born0", 1);
        good("  oath  years 005 trial 01 ;harbour h news 000 worth 099 ; woman w half in h heart 1 born 1  ", 1);
        good(SWORN + ";harbour azaz news 1 worth 1;woman zaza half in azaz heart 1 born 1", 1);
        good(SWORN + ";harbour abcdefgh news 1 worth 1;woman abcdefg sold in abcdefgh heart 1 born 1", 1);
        faulty(SWORN + ";harbour abcdefghi news", 1, 29);
        faulty("oath years 1234", 1, 11);
        faulty("oathyears 5", 1, 0);
        faulty("oathyear 5", 1, 0);
        faulty("oath Years", 1, 5);
        faulty("oathX", 1, 4);
        faulty("oath yearS", 1, 5);
        faulty(SWORN + "\n;harbour", 1, 20);
        faulty(SWORN + "\t", 1, 20);
        faulty(SWORN + (char) 0, 1, 20);
        faulty(SWORN + (char) 160, 1, 20);
        faulty(SWORN + (char) 255, 1, 20);
        faulty(SWORN + ",", 1, 20);
        faulty("oath years -5", 1, 11);
        // What is met first counts, not what is of the least number.
        faulty("harbour" + (char) 200, 6, 0);
        faulty("oath years 4 trial X", 4, 11);
    }

    private void names() {
        String[] words = {"oath", "harbour", "sea", "woman", "rival", "letter", "hand", "nearly"};
        for (String word : words) {
            faultyBehind(SWORN + ";harbour", " " + word, 1);
            faultyBehind(BASE + ";woman", " " + word, 1);
            faultyBehind(FULL + ";hand", " " + word, 1);
            faultyBehind(BASE + ";sea", " " + word, 1);
            faultyBehind(BASE + ";sea h", " " + word, 1);
            faultyBehind(FULL + ";rival", " " + word, 1);
        }
        good(SWORN + ";harbour news news 1 worth 1;woman plain plain in news heart 1 born 1;hand in joined 1 part 1", 1);
        faultyBehind(BASE + ";sea", " x", 2);
        faultyBehind(BASE + ";sea h", " x", 2);
        faultyBehind(FULL + ";sea", " w", 2);
        faultyBehind(FULL + ";sea h", " w", 2);
        faultyBehind(BASE + ";woman w plain in", " w", 2);
        faultyBehind(BASE + ";woman w plain in", " x", 2);
        faultyBehind(FULL + ";rival", " h", 2);
        faultyBehind(FULL + ";letter", " w", 2);
        faultyBehind(FULL + ";hand n joined 1 part 1;letter", " n", 2);
        faultyBehind(FULL + ";hand n joined 1 part 1;rival", " n", 2);
        faultyBehind(SWORN + ";harbour h news 1 worth 1;sea h", " g", 2);
        faultyBehind(BASE + ";harbour", " h", 3);
        faultyBehind(FULL + ";harbour", " w", 3);
        faultyBehind(FULL + ";woman", " w", 3);
        faultyBehind(FULL + ";woman", " g", 3);
        faultyBehind(FULL + ";hand", " w", 3);
        faultyBehind(FULL + ";hand n joined 1 part 1;hand", " n", 3);
        faultyBehind(FULL + ";hand n joined 1 part 1;woman", " n", 3);
        faultyBehind(BASE + ";sea h", " h", 3);
        faultyBehind(BASE + ";sea h g;sea h", " g", 3);
        faultyBehind(BASE + ";sea h g;sea g", " h", 3);
        faultyBehind(SWORN + ";", "oath", 3);
        faultyBehind(FULL + ";", "oath", 3);
    }

    private void bounds() {
        bound("oath years ", 5, 9, " trial 1;harbour h news 1 worth 1;woman w plain in h heart 1 born 1");
        bound("oath years 5 trial ", 1, 3, ";harbour h news 1 worth 1;woman w plain in h heart 1 born 1");
        bound(SWORN + ";harbour h news ", 0, 100, " worth 1;woman w plain in h heart 1 born 1");
        bound(SWORN + ";harbour h news 1 worth ", 0, 99, ";woman w plain in h heart 1 born 1");
        bound(BASE + ";woman w plain in h heart ", 0, 99, " born 1");
        bound(BASE + ";woman w plain in h heart 1 born ", 0, 60, "");
        bound(FULL + ";rival w odds ", 0, 99, "");
        bound(FULL + ";letter h by ", 1, 5, "");
        bound(FULL + ";hand n joined ", 0, 60, " part 1");
        bound(FULL + ";hand n joined 1 part ", 1, 9, "");
        bound(FULL + ";nearly landing ", 0, 8, " age 16");
        bound(FULL + ";nearly landing 1 age ", 16, 40, "");
    }

    private void bound(String ahead, int least, int most, String behind) {
        good(ahead + least + behind, 1);
        good(ahead + most + behind, 1);
        if (least > 0) {
            faulty(ahead + (least - 1) + behind, 4, ahead.length());
        }
        faulty(ahead + (most + 1) + behind, 4, ahead.length());
        faulty(ahead + 999 + behind, 4, ahead.length());
    }

    private void many() {
        StringBuilder harbours = new StringBuilder(SWORN);
        for (char h = 'a'; h < 'g'; h++) {
            harbours.append(";harbour ").append(h).append(" news 0 worth 0");
        }
        String six = harbours.toString();
        String lone = six + ";woman wa plain in a heart 1 born 1";
        good(lone, 1);
        faultyBehind(six + ";", "harbour g news 1 worth 1", 5);
        faultyBehind(six + ";", "harbour a", 5);
        faultyBehind(six + ";", "harbour", 5);

        String seas = ";sea a b;sea a c;sea a d;sea a e;sea a f;sea b c;sea b d;sea b e;sea b f;sea c d";
        good(lone + seas, 1);
        faultyBehind(lone + seas + ";", "sea c e", 5);

        more(lone, ";rival wa odds 1", 8);
        more(lone, ";letter a by 1", 6);
        more(lone, ";nearly landing 1 age 20", 4);
        more(SWORN + ";harbour a news 0 worth 0", ";woman w# plain in a heart 1 born 1", 8);
        more(lone, ";hand n# joined 1 part 1", 5);
    }

    private void more(String ahead, String line, int room) {
        StringBuilder text = new StringBuilder(ahead);
        for (int i = 0; i < room; i++) {
            text.append(line.replace('#', (char) ('a' + i)));
        }
        SworeCaptain x = new SworeCaptain();
        check.due("as many as there is room for", Check.tell(x, text.toString()) > 0, true);
        faulty(text + line.replace('#', 'z'), 5, text.length() + 1);
    }

    private void lacks() {
        faulty("harbour h", 6, 0);
        faulty("  woman", 6, 2);
        faulty("sea", 6, 0);
        faulty("rival", 6, 0);
        faulty("letter", 6, 0);
        faulty("hand", 6, 0);
        faulty("nearly", 6, 0);
        faulty(SWORN, 6, 20);
        faulty(SWORN + "  ", 6, 22);
        faulty(BASE, 6, BASE.length());
        faulty(SWORN + ";hand n joined 1 part 1", 6, 43);
    }

    /** Only the first n bytes count, in the middle of a TOKEN too. */
    private void cutText() {
        String text = FULL + "23 woman";
        SworeCaptain x = new SworeCaptain();
        Check.feed(x, text);
        check.due(x, "oath, a WHOLE cut", x.oath(FULL.length()), 1, 0);
        check.due("born", x.woman(0, 3), 1);
        Check.feed(x, text);
        check.due(x, "oath, cut behind one digit more", x.oath(FULL.length() + 1), 1, 0);
        check.due("born", x.woman(0, 3), 12);
        Check.feed(x, FULL + ";hand nabcdefghij joined 1 part 1");
        check.due(x, "oath, a NAME cut", x.oath(FULL.length() + 14), -1, 4);
        check.due("where(), the end behind the NAME", x.where(), FULL.length() + 14);
        Check.feed(x, SWORN + ";harbours");
        check.due(x, "oath, a WORD cut", x.oath(28), -1, 4);
        check.due("where(), the end behind the WORD", x.where(), 28);
    }

    /** The same object is told text upon text: nothing of those ahead stays. */
    private void tellingAgain() {
        SworeCaptain x = new SworeCaptain();
        for (int i = 0; i < 4; i++) {
            check.due(x, "the example again", Check.tell(x, Check.EXAMPLE), 4, 0);
            check.due("harbours", x.size(2), 3);
            check.due("a smaller one", Check.tell(x, SWORN + ";harbour cape news 1 worth 1;woman ann plain in cape heart 1 born 1"), 1);
            int[] sizes = {5, 1, 1, 0, 1, 0, 0, 0, 0};
            for (int what = 0; what < sizes.length; what++) {
                check.due("size(" + what + ")", x.size(what), sizes[what]);
            }
            check.due("no sea", x.harbour(0, 2), 0);
            check.due("no rival", x.woman(0, 4), 0);
            check.due("a faulty one", Check.tell(x, Check.EXAMPLE + ";"), -1);
            check.due("the smaller one stays", x.size(4), 1);
        }
    }

    private void longText() {
        StringBuilder text = new StringBuilder(FULL);
        while (text.length() < 900) {
            text.append(' ');
        }
        good(text.toString(), 1);
        text.setCharAt(899, ';');
        faulty(text.toString(), 1, 900);
        text.setCharAt(899, '!');
        faulty(text.toString(), 1, 899);
    }
}
