import java.util.ArrayList;
import java.util.List;

/** A state that one object after the other can be brought into, and all that can be seen of an object. */
final class Scene {
    /** Stands on THE TAPE in every scene, so that a call which touches the bytes there is seen. */
    private static final String SPARE = "oath years 9 trial 3;harbour zz news 9 worth 8;woman yy half in zz heart 7 born 6";

    private final String name;
    private final String text;
    private final String[] calls;
    private List<String> untouched;

    /** Without a text there is no OATH. */
    Scene(String name, String text, String... calls) {
        this.name = name;
        this.text = text;
        this.calls = calls;
    }

    @Override
    public String toString() {
        return name;
    }

    SworeCaptain make() {
        SworeCaptain x = text == null ? new SworeCaptain() : Check.told(text);
        for (String call : calls) {
            Call.of(call).on(x);
        }
        Check.feed(x, SPARE);
        return x;
    }

    /** What is otherwise of an object in this scene than if it hadn't been called; empty if nothing is. */
    String changed(SworeCaptain x) {
        if (untouched == null) {
            untouched = picture(make());
        }
        List<String> seen = picture(x);
        for (int i = 0; i < Math.max(seen.size(), untouched.size()); i++) {
            String one = i < seen.size() ? seen.get(i) : "nothing";
            String other = i < untouched.size() ? untouched.get(i) : "nothing";
            if (!one.equals(other)) {
                return one + ", was " + other;
            }
        }
        return "";
    }

    /** The object is used up by it: acts are undone, images gone back to, THE TAPE is read. Some 300 calls. */
    private static List<String> picture(SworeCaptain x) {
        List<String> seen = new ArrayList<>();
        see(seen, x, "fault()");
        for (int what = 0; what <= 15; what++) {
            see(seen, x, "size(" + what + ")");
        }
        seeOath(seen, x);
        seeMoment(seen, x);
        while (see(seen, x, "undo()") == 1) {
            for (int what = 9; what <= 13; what++) {
                see(seen, x, "size(" + what + ")");
            }
        }
        seeMoment(seen, x);
        for (int image = 0; see(seen, x, "back(" + image + ")") == 1; image++) {
            seeMoment(seen, x);
        }
        see(seen, x, "oath(" + x.size(15) + ")");
        see(seen, x, "fault()");
        for (int what = 0; what <= 15; what++) {
            see(seen, x, "size(" + what + ")");
        }
        seeOath(seen, x);
        return seen;
    }

    private static void seeOath(List<String> seen, SworeCaptain x) {
        for (int h = 0; h < x.size(2); h++) {
            for (int what = 0; what <= 3; what++) {
                see(seen, x, "harbour(" + h + ", " + what + ")");
            }
        }
        for (int w = 0; w < x.size(4); w++) {
            for (int what = 0; what <= 3; what++) {
                see(seen, x, "woman(" + w + ", " + what + ")");
            }
            see(seen, x, "love(" + w + ", 4)");
        }
        for (int hand = 0; hand < x.size(7); hand++) {
            see(seen, x, "service(" + hand + ", 30)");
        }
        for (int k = 0; k < x.size(8); k++) {
            see(seen, x, "could(" + k + ")");
        }
    }

    private static void seeMoment(List<String> seen, SworeCaptain x) {
        for (int what = 9; what <= 14; what++) {
            see(seen, x, "size(" + what + ")");
        }
        for (int w = 0; w < x.size(4); w++) {
            see(seen, x, "woman(" + w + ", 5)");
        }
        see(seen, x, "lost()");
        for (int i = 0; see(seen, x, "led(" + i + ")") != Check.THROWS; i++) {
            see(seen, x, "letters(5)");
        }
    }

    private static long see(List<String> seen, SworeCaptain x, String call) {
        long answer = Call.of(call).on(x);
        seen.add(call + " = " + answer);
        return answer;
    }
}
