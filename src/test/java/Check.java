import java.nio.charset.StandardCharsets;
import java.util.NoSuchElementException;

/** What all tests share: counting answers that are not as due, and telling a text to an object. */
final class Check {
    /** The example that most tests go by. */
    static final String EXAMPLE = "oath years 7 trial 1;harbour cape news 0 worth 40;harbour bay news 50 worth 90;"
        + "harbour isle news 100 worth 10;sea cape bay;sea bay isle;woman ann plain in cape heart 60 born 0;"
        + "woman bea proud in bay heart 50 born 2;woman cis sold in bay heart 20 born 7;"
        + "woman dot half in isle heart 80 born 5;rival ann odds 50;rival bea odds 20;rival bea odds 25;"
        + "letter bay by 1;letter isle by 2;letter cape by 5;hand ned joined 0 part 2;hand tom joined 14 part 3;"
        + "nearly landing 3 age 21;nearly landing 4 age 21";

    private final String name;
    private int asked = 0;
    private int wrong = 0;

    Check(String name) {
        this.name = name;
    }

    void due(String call, long got, long want) {
        asked++;
        if (got != want) {
            wrong++;
            if (wrong <= 40) {
                System.out.println(name + ": " + call + " answered " + got + ", due is " + want);
            }
        }
    }

    void due(String call, boolean got, boolean want) {
        due(call, got ? 1 : 0, want ? 1 : 0);
    }

    /** An answer, and the number that trouble() answers behind it. */
    void due(SworeCaptain x, String call, long got, long want, int trouble) {
        due(call, got, want);
        due("trouble() behind " + call, x.trouble(), trouble);
    }

    void due(SworeCaptain x, String call, boolean got, boolean want, int trouble) {
        due(call, got, want);
        due("trouble() behind " + call, x.trouble(), trouble);
    }

    void dueLed(SworeCaptain x, int i, int want) {
        int got;
        try {
            got = x.led(i);
        } catch (NoSuchElementException e) {
            got = Integer.MIN_VALUE;
        }
        due("led(" + i + ")", got, want);
    }

    static final int THROWS = Integer.MIN_VALUE;

    void end() {
        System.out.println(asked + " answers, " + wrong + " of them not as due");
        if (wrong != 0 || asked == 0) {
            System.exit(1);
        }
    }

    static void feed(SworeCaptain x, String text) {
        feed(x, text.getBytes(StandardCharsets.ISO_8859_1));
    }

    static void feed(SworeCaptain x, byte[] text) {
        for (int at = 0; at < text.length; at += 20) {
            int[] five = new int[5];
            for (int i = 0; i < 20; i++) {
                int sign = at + i < text.length ? text[at + i] & 255 : ' ';
                five[i / 4] = five[i / 4] << 8 | sign;
            }
            x.feed(five[0], five[1], five[2], five[3], five[4]);
        }
    }

    static int tell(SworeCaptain x, String text) {
        feed(x, text);
        return x.oath(text.length());
    }

    /** A new object by a text that must be without FAULT. */
    static SworeCaptain told(String text) {
        SworeCaptain x = new SworeCaptain();
        if (tell(x, text) < 0) {
            throw new IllegalStateException("fault " + x.fault() + " at " + x.where() + " of " + text);
        }
        return x;
    }
}
