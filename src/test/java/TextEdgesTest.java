import java.util.ArrayList;
import java.util.Arrays;
import java.util.List;

/** Terms I: the bounds of TOKENS, of numbers, of how many there may be; which FAULT, and where. */
public final class TextEdgesTest extends Edges {
    private static final String SWORN = "oath years 5 trial 1";
    private static final String BASE = SWORN + ";harbour h news 1 worth 1;harbour g news 1 worth 1";
    private static final String WHOLE = BASE + ";woman w plain in h heart 1 born 1";

    private TextEdgesTest() {
        super("TextEdgesTest");
    }

    public static void main(String[] args) {
        TextEdgesTest t = new TextEdgesTest();
        t.everyByteBehindALine();
        t.everyByteInAName();
        t.everyByteAsAName();
        t.wordsOfOneToEight();
        t.wholesOfOneToThree();
        t.togetherAndApart();
        t.everyTokenOfEveryLine();
        t.namesThatAreNone();
        t.boundsOfNumbers();
        t.fullAndOneMore();
        t.asManyNamesAsThereAre();
        t.leastOfOnePlace();
        t.firstFromTheLeft();
        t.theEnd();
        t.check.end();
    }

    private void faulty(String text, int fault, int place) {
        SworeCaptain x = new SworeCaptain();
        check.due(x, "oath of '" + text + "'", Check.tell(x, text), -1, 4);
        check.due("fault() of '" + text + "'", x.fault(), fault);
        check.due("where() of '" + text + "'", x.where(), place);
    }

    /** A text without FAULT, and what it tells. */
    private SworeCaptain good(String text, int women) {
        SworeCaptain x = new SworeCaptain();
        check.due(x, "oath of '" + text + "'", Check.tell(x, text), women, 0);
        check.due("fault() of '" + text + "'", x.fault(), 0);
        return x;
    }

    private static boolean isLetter(int sign) {
        return sign >= 'a' && sign <= 'z';
    }

    private static boolean isDigit(int sign) {
        return sign >= '0' && sign <= '9';
    }

    /** "blanks, 32, part TOKENS and mean nothing else": of all 256 bytes 32 alone is one. */
    private void everyByteBehindALine() {
        for (int sign = 0; sign <= 255; sign++) {
            String text = SWORN + (char) sign;
            if (sign == ' ') {
                faulty(text, 6, 21);
            } else if (sign == ';') {
                faulty(text, 1, 21);
            } else if (isDigit(sign)) {
                faulty(text, 4, 19);
            } else {
                faulty(text, 1, 20);
            }
        }
    }

    /** "small letters that stand together": a to z go on with a WORD, all else ends it. */
    private void everyByteInAName() {
        String behind = " news 1 worth 1;woman w plain in h";
        for (int sign = 0; sign <= 255; sign++) {
            String text = SWORN + ";harbour h" + (char) sign + behind + (char) sign + " heart 1 born 1";
            if (isLetter(sign) || sign == ' ') {
                good(text, 1);
            } else {
                faulty(text, 1, 30);
            }
        }
    }

    private void everyByteAsAName() {
        for (int sign = 0; sign <= 255; sign++) {
            String name = String.valueOf((char) sign);
            String text = SWORN + ";harbour " + name + " news 1 worth 1;woman ww plain in " + name + " heart 1 born 1";
            if (isLetter(sign)) {
                good(text, 1);
            } else {
                // A blank is no NAME: news is the NAME then, and a WHOLE stands behind it.
                faulty(text, 1, sign == ' ' ? 36 : 29);
            }
        }
    }

    /** "WORDS of 1 to 8 small letters". */
    private void wordsOfOneToEight() {
        String[] names = {"abcdefgh", "zzzzzzzz", "aaaaaaaa", "abcdefgi", "bbcdefgh", "z", "a", "aa"};
        for (String one : names) {
            for (String other : names) {
                String text = SWORN + ";harbour " + one + " news 1 worth 1;woman " + other + " plain in " + one + " heart 1 born 1";
                if (one.equals(other)) {
                    faulty(text, 3, 51 + one.length());
                } else {
                    good(text, 1);
                }
            }
        }
        for (char c = 'a'; c <= 'z'; c++) {
            // One letter however often: each is another NAME.
            good(SWORN + ";harbour " + c + " news 1 worth 1;harbour " + c + c + " news 1 worth 1;woman " + c + c + c + " plain in " + c
                + " heart 1 born 1", 1);
        }
        faulty(SWORN + ";harbour abcdefghi news 1 worth 1", 1, 29);
        faulty(SWORN + ";harbour abcdefghijklmnopqrstuvwxyz", 1, 29);
        faulty("harbourss", 1, 0);
        faulty("oath yearssss", 1, 5);
        faulty(WHOLE + ";rival wwwwwwwww odds 1", 1, WHOLE.length() + 7);
    }

    /** "WHOLES of 1 to 3 digits". */
    private void wholesOfOneToThree() {
        SworeCaptain x = good("oath years 005 trial 01;harbour h news 000 worth 09;woman w plain in h heart 099 born 060", 1);
        run(x, "size(0) = 5", "size(1) = 1", "harbour(0, 0) = 0", "harbour(0, 1) = 9", "woman(0, 2) = 99", "woman(0, 3) = 60");
        faulty("oath years 0005 trial 1", 1, 11);
        faulty("oath years 5000 trial 1", 1, 11);
        faulty("oath years 5 trial 0001", 1, 19);
        faulty(SWORN + ";harbour h news 0000 worth 0", 1, 36);
        // 4,294,967,301 would be 5 as a wrapped number.
        faulty("oath years 4294967301 trial 1", 1, 11);
        faulty("oath years 999 trial 1", 4, 11);
        faulty("oath years 000 trial 1", 4, 11);
    }

    /** TOKENS need no blank between them where they part by themselves; a TOKEN has none inside. */
    private void togetherAndApart() {
        good("oath years5trial1;harbour h news1worth1;woman w plain in h heart1born1", 1);
        good("  oath  years  5  trial  1  ;  harbour h news 1 worth 1  ;woman w plain in h heart 1 born 1  ", 1);
        faulty("oa th years 5", 1, 0);
        faulty("oathyears 5", 1, 0);
        faulty("oath years 5 5", 1, 13);
        faulty(SWORN + ";harbour h news 1 0 worth 1", 1, 38);
        faulty(SWORN + ";;harbour h news 1 worth 1", 1, 21);
        faulty(";" + SWORN, 1, 0);
    }

    private static final List<String> LINE_WORDS =
        Arrays.asList("oath", "harbour", "sea", "woman", "rival", "letter", "hand", "nearly");
    private static final List<String> OTHER_WORDS = Arrays.asList("years", "trial", "news", "worth", "in", "heart", "born", "odds", "by",
        "joined", "part", "landing", "age");
    private static final List<String> KINDS = Arrays.asList("plain", "proud", "sold", "half");

    /** "1 FORM: .. TOKEN with which no OATH goes on (the end: its place)": at each place of each sort of LINE. */
    private void everyTokenOfEveryLine() {
        everyToken("", "oath years 5 trial 1");
        String[] lines = {"harbour z news 1 worth 1", "sea h g", "woman z plain in h heart 1 born 1", "rival w odds 1", "letter h by 1",
            "hand z joined 1 part 1", "nearly landing 1 age 16"};
        for (String line : lines) {
            everyToken(WHOLE + ";", line);
            good(WHOLE + ";" + line, line.startsWith("woman") ? 2 : 1);
            faulty(WHOLE + ";" + line + ";", 1, WHOLE.length() + line.length() + 2);
        }
    }

    private void everyToken(String ahead, String line) {
        String[] tokens = line.split(" ");
        String text = ahead + tokens[0] + " ";
        for (int i = 1; i <= tokens.length; i++) {
            boolean behind = i == tokens.length;
            List<String> wrong = new ArrayList<>(LINE_WORDS);
            if (behind || OTHER_WORDS.contains(tokens[i]) || KINDS.contains(tokens[i]) || tokens[i].matches("[0-9]+")) {
                wrong.addAll(OTHER_WORDS);
                wrong.addAll(KINDS);
                wrong.add("zz");
            }
            if (behind || !tokens[i].matches("[0-9]+")) {
                wrong.add("7");
            }
            if (!behind) {
                wrong.add(";");
                wrong.remove(tokens[i]);
                wrong.removeAll(KINDS.contains(tokens[i]) ? KINDS : List.of());
                faulty(text, 1, text.length());
            }
            for (String word : wrong) {
                faulty(text + word, 1, text.length());
                faulty(text + word + line.substring(line.indexOf(' ')), 1, text.length());
            }
            text += behind ? "" : tokens[i] + " ";
        }
    }

    /** 6 harbours, 8 women and 5 hands have 19 NAMES; the last told is known, and so is the first. */
    private void asManyNamesAsThereAre() {
        StringBuilder text = new StringBuilder(SWORN);
        for (char name = 'a'; name <= 'e'; name++) {
            text.append(";hand ").append(name).append(" joined 1 part 1");
        }
        for (char name = 'f'; name <= 'k'; name++) {
            text.append(";harbour ").append(name).append(" news 1 worth 1");
        }
        for (char name = 'l'; name <= 's'; name++) {
            text.append(";woman ").append(name).append(" plain in k heart 1 born 1");
        }
        good(text.toString(), 8);
        run(good(text + ";rival s odds 1;rival l odds 1;letter f by 1;letter k by 1;sea f k", 8), "woman(7, 4) = 1", "woman(0, 4) = 1",
            "harbour(0, 2) = 32", "harbour(5, 2) = 1", "size(4) = 8", "size(7) = 5", "size(2) = 6");
        faulty(text + ";rival a odds 1", 2, text.length() + 7);
        faulty(text + ";rival k odds 1", 2, text.length() + 7);
        faulty(text + ";letter s by 1", 2, text.length() + 8);
        faulty(text + ";letter e by 1", 2, text.length() + 8);
        faulty(text + ";letter t by 1", 2, text.length() + 8);
        // The same NAME told again by the last LINE there is room for.
        String one = ";woman s plain in k heart 1 born 1";
        String fewer = text.substring(0, text.length() - one.length());
        for (char name = 'a'; name <= 'r'; name++) {
            faulty(fewer + ";woman " + name + " plain in k heart 1 born 1", 3, fewer.length() + 7);
        }
    }

    /** "NAMES are WORDS but oath, harbour, sea, woman, rival, letter, hand, nearly". */
    private void namesThatAreNone() {
        for (String word : LINE_WORDS) {
            faulty(SWORN + ";harbour " + word + " news 1 worth 1", 1, 29);
            faulty(BASE + ";woman " + word + " plain in h heart 1 born 1", 1, BASE.length() + 7);
            faulty(BASE + ";woman w plain in " + word, 1, BASE.length() + 18);
            faulty(WHOLE + ";hand " + word + " joined 1 part 1", 1, WHOLE.length() + 6);
            faulty(WHOLE + ";sea " + word + " g", 1, WHOLE.length() + 5);
            faulty(WHOLE + ";sea h " + word, 1, WHOLE.length() + 7);
            faulty(WHOLE + ";rival " + word, 1, WHOLE.length() + 7);
            faulty(WHOLE + ";letter " + word, 1, WHOLE.length() + 8);
        }
        List<String> others = new ArrayList<>(OTHER_WORDS);
        others.addAll(KINDS);
        for (String word : others) {
            good(SWORN + ";harbour " + word + " news 1 worth 1;woman w plain in " + word + " heart 1 born 1", 1);
            good(BASE + ";woman " + word + " plain in h heart 1 born 1;rival " + word + " odds 1", 1);
            good(WHOLE + ";hand " + word + " joined 1 part 1", 1);
            faulty(WHOLE + ";" + word, 1, WHOLE.length() + 1);
        }
    }

    private void boundsOfNumbers() {
        String rest = ";harbour h news 1 worth 1;woman w plain in h heart 1 born 1";
        number("oath years ", 5, 9, " trial 1" + rest, "size(0)");
        number("oath years 5 trial ", 1, 3, rest, "size(1)");
        number(SWORN + ";harbour h news ", 0, 100, " worth 1;woman w plain in h heart 1 born 1", "harbour(0, 0)");
        number(SWORN + ";harbour h news 1 worth ", 0, 99, ";woman w plain in h heart 1 born 1", "harbour(0, 1)");
        number(BASE + ";woman w plain in h heart ", 0, 99, " born 1", "woman(0, 2)");
        number(BASE + ";woman w plain in h heart 1 born ", 0, 60, "", "woman(0, 3)");
        number(WHOLE + ";rival w odds ", 0, 99, "", null);
        number(WHOLE + ";letter h by ", 1, 5, "", null);
        number(WHOLE + ";hand n joined ", 0, 60, " part 1", null);
        // At landing 1 by 5 years, joined in year 4: one year.
        number(WHOLE + ";hand n joined 4 part ", 1, 9, "", "service(0, 1)");
        number(WHOLE + ";nearly landing ", 0, 8, " age 16", null);
        number(WHOLE + ";nearly landing 1 age ", 16, 40, "", null);
    }

    /** The last number that is taken and the first that isn't, on both sides, and what a call tells of those taken. */
    private void number(String ahead, int least, int most, String behind, String told) {
        for (int value : new int[] {least, least + 1, most - 1, most}) {
            SworeCaptain x = good(ahead + value + behind, 1);
            if (told != null) {
                check.due(told + " of " + value, Call.of(told).on(x), value);
            }
        }
        if (least > 0) {
            faulty(ahead + (least - 1) + behind, 4, ahead.length());
            faulty(ahead + 0 + behind, 4, ahead.length());
        }
        faulty(ahead + "-1" + behind, 1, ahead.length());
        faulty(ahead + (most + 1) + behind, 4, ahead.length());
        faulty(ahead + 999 + behind, 4, ahead.length());
        faulty(ahead + behind.stripLeading(), 1, ahead.length());
    }

    /** "5 MANY: a LINE more of its sort than there is room for, at its first WORD". */
    private void fullAndOneMore() {
        SworeCaptain x = good(FULL_TEXT, 8);
        run(x, "size(2) = 6", "size(3) = 10", "size(4) = 8", "size(5) = 8", "size(6) = 6", "size(7) = 5", "size(8) = 4");
        String[] more = {"harbour z news 1 worth 1", "sea b d", "woman z plain in a heart 1 born 1", "rival g odds 1", "letter a by 1",
            "hand z joined 1 part 1", "nearly landing 1 age 16"};
        for (String line : more) {
            faulty(FULL_TEXT + ";" + line, 5, FULL_TEXT.length() + 1);
            faulty(FULL_TEXT + "; " + line.substring(0, line.indexOf(' ')), 5, FULL_TEXT.length() + 2);
            // One of that sort fewer, and there is room for it: the sorts are counted apart.
            String word = line.substring(0, line.indexOf(' ') + 1);
            int last = FULL_TEXT.lastIndexOf(word);
            int end = FULL_TEXT.indexOf(';', last);
            String fewer = FULL_TEXT.substring(0, last) + (end < 0 ? "" : FULL_TEXT.substring(end + 1));
            boolean used = word.equals("harbour ");
            if (!used) {
                String text = fewer.endsWith(";") ? fewer + line : fewer + ";" + line;
                good(text, 8);
                faulty(text + ";" + line, 5, text.length() + 1);
            }
        }
    }

    /** "of one place the least number". */
    private void leastOfOnePlace() {
        // 1 and 2, 1 and 3: a WORD that is no NAME. 1 and 6: the end.
        faulty(WHOLE + ";letter oath", 1, WHOLE.length() + 8);
        faulty(WHOLE + ";hand sea", 1, WHOLE.length() + 6);
        faulty(SWORN + ";", 1, 21);
        faulty(SWORN + ";harbour h news 1", 1, 37);
        faulty("", 1, 0);
        faulty("      ", 1, 6);
        // 2 and 3: a second HARBOUR that isn't told can't be the first.
        faulty(WHOLE + ";sea h w", 2, WHOLE.length() + 7);
        faulty(WHOLE + ";sea h h", 3, WHOLE.length() + 7);
        // 1 and 4: a WHOLE too long.
        faulty(WHOLE + ";rival w odds 1000", 1, WHOLE.length() + 14);
    }

    /** "the first that is met from the left". */
    private void firstFromTheLeft() {
        faulty("harbour !", 6, 0);
        faulty("harbour oath", 6, 0);
        faulty("nearly landing 9 age 1", 6, 0);
        faulty("oath years 4 trial 9 !", 4, 11);
        faulty("oath years 5 trial 9 !", 4, 19);
        faulty(SWORN + ";oath years 4", 3, 21);
        faulty(SWORN + ";harbour h news 101 worth 100", 4, 36);
        faulty(WHOLE + ";sea x x", 2, WHOLE.length() + 5);
        faulty(WHOLE + ";sea w w", 2, WHOLE.length() + 5);
        faulty(WHOLE + ";woman w shy", 3, WHOLE.length() + 7);
        faulty(WHOLE + ";woman v shy in x", 1, WHOLE.length() + 9);
        faulty(WHOLE + ";woman v plain in x heart 100", 2, WHOLE.length() + 18);
        faulty(WHOLE + ";woman v plain in v heart 100", 2, WHOLE.length() + 18);
        faulty(WHOLE + ";rival x odds 100", 2, WHOLE.length() + 7);
        faulty(WHOLE + ";letter x by 6", 2, WHOLE.length() + 8);
        faulty(WHOLE + ";hand w joined 61", 3, WHOLE.length() + 6);
        faulty(WHOLE + ";hand n joined 61 part 10", 4, WHOLE.length() + 15);
        faulty(WHOLE + ";nearly landing 9 age 41", 4, WHOLE.length() + 16);
        faulty(FULL_TEXT + ";woman g", 5, FULL_TEXT.length() + 1);
        faulty(FULL_TEXT + ";sea x y", 5, FULL_TEXT.length() + 1);
    }

    /** "(the end: its place)", and "6 LACKS: .. at the end: no harbour, no woman". */
    private void theEnd() {
        String line = "oath years 5 trial 1";
        for (int n = 0; n < line.length(); n++) {
            SworeCaptain x = new SworeCaptain();
            Check.feed(x, line);
            check.due(x, "oath(" + n + ")", x.oath(n), -1, 4);
            check.due("fault() at " + n, x.fault(), 1);
            boolean cut = n > 0 && n < 4 || n > 5 && n < 10 || n > 13 && n < 18;
            int word = n < 4 ? 0 : n < 10 ? 5 : 13;
            check.due("where() at " + n, x.where(), cut ? word : n);
        }
        faulty(line, 6, 20);
        faulty(line + "   ", 6, 23);
        faulty(line + ";harbour h news 1 worth 1", 6, 45);
        faulty(line + ";harbour h news 1 worth 1 ", 6, 46);
        faulty(line + ";hand h joined 1 part 1", 6, 43);
        faulty(line + ";nearly landing 1 age 16", 6, 44);
        StringBuilder longest = new StringBuilder(WHOLE);
        while (longest.length() < 900) {
            longest.append(' ');
        }
        good(longest.toString(), 1);
        longest.setCharAt(899, ';');
        faulty(longest.toString(), 1, 900);
        longest.setCharAt(899, '7');
        faulty(longest.toString(), 1, 899);
    }
}
