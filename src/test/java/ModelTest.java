import java.lang.reflect.InvocationTargetException;
import java.lang.reflect.Method;
import java.lang.reflect.Modifier;
import java.util.ArrayList;
import java.util.Arrays;
import java.util.Comparator;
import java.util.List;
import java.util.NoSuchElementException;
import java.util.Random;

/** Runs of calls drawn by fixed seeds: the class and the Model must answer alike, trouble() too. */
public final class ModelTest {
    private static final int OBJECTS = Integer.getInteger("objects", 1500);
    /** A text takes up to 100 calls more, and an object has 512. */
    private static final int CALLS = 400;
    private static final long THREW = Long.MIN_VALUE;

    private final Random random;
    private final SworeCaptain x = new SworeCaptain();
    private final Model model = new Model();
    private final List<Method> calls = new ArrayList<>();
    private final Check check;
    private final List<String> run = new ArrayList<>();
    private int done = 0;

    private ModelTest(long seed, Check check) {
        this.random = new Random(seed);
        this.check = check;
        for (Method m : SworeCaptain.class.getDeclaredMethods()) {
            if (Modifier.isPublic(m.getModifiers())) {
                calls.add(m);
            }
        }
        calls.sort(Comparator.comparing(Method::getName));
    }

    public static void main(String[] args) throws Exception {
        Check check = new Check("ModelTest");
        for (int i = 0; i < OBJECTS; i++) {
            if (!new ModelTest(7919L * i, check).lastsAsLong()) {
                break;
            }
        }
        check.end();
    }

    private boolean lastsAsLong() throws Exception {
        while (done < CALLS) {
            int dice = random.nextInt(80);
            boolean good;
            if (done == 0 && random.nextInt(4) > 0 || dice == 0) {
                good = tellText();
            } else if (dice < 6) {
                good = both("sail", random.nextInt(7));
            } else if (dice < 8) {
                good = both("court", random.nextInt(9));
            } else {
                good = anyCall();
            }
            if (!good) {
                return false;
            }
        }
        return true;
    }

    private boolean anyCall() throws Exception {
        Method m = calls.get(random.nextInt(calls.size()));
        if (m.getName().equals("oath") || m.getName().equals("feed") && random.nextInt(3) > 0) {
            return true;
        }
        int[] a = new int[m.getParameterCount()];
        for (int i = 0; i < a.length; i++) {
            a[i] = number(m, i);
        }
        return both(m.getName(), a);
    }

    /** Numbers that are mostly within the bounds of what they are for, at times just outside or far off. */
    private int number(Method m, int i) {
        if (m.getParameterTypes()[i] == boolean.class) {
            return random.nextInt(2);
        }
        switch (random.nextInt(60)) {
            case 0: return random.nextInt();
            case 1: return random.nextBoolean() ? Integer.MIN_VALUE : Integer.MAX_VALUE;
            case 2: return -1;
            case 3: return random.nextInt(70000);
            default: break;
        }
        String name = m.getName();
        if (i == 0 && (name.startsWith("li") || name.equals("seed"))) {
            return random.nextInt(65540);
        }
        if (name.equals("part") && i == 1 || name.equals("bestHand") && i == 0) {
            return random.nextInt(1002);
        }
        if (name.startsWith("rest") || name.equals("bid") && i == 0) {
            return random.nextInt(102);
        }
        if (name.equals("byYears") && i == 2) {
            return 4 + random.nextInt(7);
        }
        boolean landing = Arrays.asList("present", "bestYears").contains(name)
            || i == m.getParameterCount() - 1 && Arrays.asList("part", "service", "bestHand").contains(name)
            || i == 1 && Arrays.asList("age", "love", "isTrue", "alone", "belle", "byYears").contains(name);
        if (landing) {
            return random.nextInt(3) == 0 ? random.nextInt(33) : random.nextInt(13);
        }
        if (name.startsWith("li") && i == 1) {
            return random.nextInt(32);
        }
        return random.nextInt(name.equals("size") ? 17 : name.startsWith("route") || name.equals("mean") ? 4 : 8);
    }

    private boolean tellText() throws Exception {
        byte[] text = new Texts(random).next();
        boolean good = true;
        for (int at = 0; at < text.length && good; at += 20) {
            int[] five = new int[5];
            for (int i = 0; i < 20; i++) {
                int sign = at + i < text.length ? text[at + i] & 255 : ' ';
                five[i / 4] = five[i / 4] << 8 | sign;
            }
            good = both("feed", five);
        }
        return good && both("oath", text.length) && both("trouble") && both("fault") && both("where");
    }

    private boolean both(String name, int... a) throws Exception {
        Method m = calls.stream().filter(c -> c.getName().equals(name)).findFirst().orElseThrow();
        Object[] values = new Object[a.length];
        for (int i = 0; i < a.length; i++) {
            values[i] = m.getParameterTypes()[i] == boolean.class ? (Object) (a[i] != 0) : (Object) a[i];
        }
        long got;
        try {
            Object answer = m.invoke(x, values);
            got = answer instanceof Boolean b ? b ? 1 : 0 : ((Number) answer).longValue();
        } catch (InvocationTargetException e) {
            got = e.getCause() instanceof NoSuchElementException ? THREW : THREW + 1;
        }
        long want;
        try {
            want = model.answer(name, a);
        } catch (NoSuchElementException e) {
            want = THREW;
        }
        done += 2;
        String call = name + Arrays.toString(a);
        run.add(call + " = " + want);
        check.due(call, got, want);
        long trouble = x.trouble();
        long troubleDue = model.answer("trouble", new int[0]);
        check.due("trouble() behind " + call, trouble, troubleDue);
        if (got != want || trouble != troubleDue) {
            run.forEach(System.out::println);
            return false;
        }
        return true;
    }

    /** Texts of OATHS: most without a FAULT, others with something changed. */
    private static final class Texts {
        private final Random random;
        private final StringBuilder text = new StringBuilder();

        Texts(Random random) {
            this.random = random;
        }

        byte[] next() {
            lines();
            String whole = text.toString();
            if (random.nextInt(4) == 0) {
                whole = spoiled(whole);
            }
            if (whole.length() > 900) {
                whole = whole.substring(0, 900);
            }
            byte[] bytes = new byte[whole.length()];
            for (int i = 0; i < bytes.length; i++) {
                bytes[i] = (byte) whole.charAt(i);
            }
            return bytes;
        }

        private void lines() {
            int harbours = 1 + random.nextInt(random.nextInt(30) == 0 ? 7 : 6);
            int women = 1 + random.nextInt(random.nextInt(30) == 0 ? 9 : 8);
            text.append("oath years ").append(5 + random.nextInt(5)).append(" trial ").append(1 + random.nextInt(3));
            for (int h = 0; h < harbours; h++) {
                add("harbour " + (char) ('a' + h) + " news " + random.nextInt(101) + " worth " + random.nextInt(100));
            }
            boolean alike = random.nextInt(3) == 0;
            seas(harbours);
            for (int w = 0; w < women; w++) {
                String kind = new String[] {"plain", "proud", "sold", "half"}[random.nextInt(4)];
                int heart = alike ? 50 * (1 + random.nextInt(2)) - 1 : random.nextInt(100);
                int born = random.nextBoolean() ? 7 * random.nextInt(3) : random.nextInt(61);
                add("woman w" + (char) ('a' + w) + " " + kind + " in " + some(harbours) + " heart " + heart + " born " + born);
            }
            for (int i = random.nextInt(random.nextInt(30) == 0 ? 10 : 4); i > 0; i--) {
                add("rival w" + some(women) + " odds " + random.nextInt(100));
            }
            for (int i = random.nextInt(random.nextInt(30) == 0 ? 8 : 7); i > 0; i--) {
                add("letter " + some(harbours) + " by " + (1 + random.nextInt(5)));
            }
            int hands = random.nextInt(random.nextInt(30) == 0 ? 7 : 6);
            for (int i = 0; i < hands; i++) {
                add("hand z" + (char) ('a' + i) + " joined " + random.nextInt(61) + " part " + (1 + random.nextInt(9)));
            }
            nearly();
        }

        private void seas(int harbours) {
            boolean wrong = random.nextInt(40) == 0;
            int left = wrong ? 11 : random.nextInt(11);
            for (int h = 0; h < harbours; h++) {
                for (int g = 0; g < h; g++) {
                    if (left > 0 && random.nextInt(3) > 0) {
                        left--;
                        char one = (char) ('a' + h);
                        char other = (char) ('a' + g);
                        add(random.nextBoolean() ? "sea " + one + " " + other : "sea " + other + " " + one);
                    }
                }
            }
        }

        private void nearly() {
            int years = Character.digit(text.charAt(11), 10);
            int base = random.nextInt(3);
            for (int i = random.nextInt(random.nextInt(30) == 0 ? 6 : 5); i > 0; i--) {
                int landing = 3 + random.nextInt(3);
                int age = random.nextInt(4) == 0 ? 16 + random.nextInt(25) : landing * years - 7 * base;
                base = random.nextInt(5) == 0 ? random.nextInt(3) : base;
                add("nearly landing " + landing + " age " + (age < 16 || age > 40 ? 21 : age));
            }
        }

        private char some(int many) {
            return (char) ('a' + random.nextInt(many));
        }

        private void add(String line) {
            if (text.length() + line.length() < 900) {
                text.append(random.nextInt(20) == 0 ? " ; " : ";").append(line);
            }
        }

        private String spoiled(String whole) {
            String[] pieces = {";", " ", "oath", "sea", "12", "1234", "abcdefghi", "A", "a", "b", "wa", "za", "7", "100", "999",
                "harbour", "letter", "\u00e1", "\n", "in", "hand za joined 1 part 1", ";woman q plain in a heart 1 born 1"};
            int at = random.nextInt(whole.length() + 1);
            switch (random.nextInt(4)) {
                case 0:
                    return whole.substring(0, at);
                case 1:
                    int to = Math.min(whole.length(), at + 1 + random.nextInt(4));
                    return whole.substring(0, at) + whole.substring(to);
                case 2:
                    return whole.substring(0, at) + pieces[random.nextInt(pieces.length)] + whole.substring(at);
                default:
                    String[] tokens = whole.split("(?=[ ;])|(?<=[ ;])");
                    tokens[random.nextInt(tokens.length)] = pieces[random.nextInt(pieces.length)];
                    return String.join("", tokens);
            }
        }
    }
}
