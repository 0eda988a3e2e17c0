import java.math.BigInteger;
import java.util.ArrayDeque;
import java.util.ArrayList;
import java.util.Arrays;
import java.util.Deque;
import java.util.HashMap;
import java.util.List;
import java.util.Map;
import java.util.NoSuchElementException;
import java.util.TreeSet;
import java.util.regex.Matcher;
import java.util.regex.Pattern;

/**
 * The document once more, written by its words alone and without a care for speed: every row is made,
 * every chance is a fraction of BigIntegers. ModelTest holds the class against it.
 */
final class Model {
    // Names: !x tells one, ?x uses one (x: h harbour, w woman, c hand); #a-b is a WHOLE; %kind a KIND.
    private static final String[] LINES = {
        "harbour !h news #0-100 worth #0-99", "sea ?h ?h", "woman !w %kind in ?h heart #0-99 born #0-60",
        "rival ?w odds #0-99", "letter ?h by #1-5", "hand !c joined #0-60 part #1-9", "nearly landing #0-8 age #16-40",
        "oath years #5-9 trial #1-3"};
    private static final int[] ROOM = {6, 10, 8, 8, 6, 5, 4};
    private static final List<String> NO_NAMES =
        Arrays.asList("oath", "harbour", "sea", "woman", "rival", "letter", "hand", "nearly");
    private static final List<String> KINDS = Arrays.asList("plain", "proud", "sold", "half");

    private record Told(char sort, int number) { }

    /** LINES of a text, each as its numbers; a text's FAULT. */
    private static final class Text {
        int fault = 0;
        int place = 0;
        final List<List<int[]>> lines = new ArrayList<>();
        final Map<String, Told> names = new HashMap<>();
        final int[] namesOf = new int[128];

        Text() {
            for (int i = 0; i < LINES.length; i++) {
                lines.add(new ArrayList<>());
            }
        }

        boolean fault(int number, int at) {
            fault = number;
            place = at;
            return false;
        }
    }

    private record Token(String text, int at) {
        boolean isWord() {
            return text.matches("[a-z]{1,8}");
        }

        boolean isWhole() {
            return text.matches("[0-9]{1,3}");
        }
    }

    private static Text read(String whole) {
        List<Token> tokens = new ArrayList<>();
        Matcher m = Pattern.compile("[a-z]+|[0-9]+|[^ a-z0-9]", Pattern.DOTALL).matcher(whole);
        while (m.find()) {
            tokens.add(new Token(m.group(), m.start()));
        }
        tokens.add(new Token("", whole.length()));
        Text t = new Text();
        int i = 0;
        while (true) {
            Token first = tokens.get(i);
            int sort = -1;
            for (int k = 0; k < LINES.length; k++) {
                if (LINES[k].startsWith(first.text + " ") && first.isWord()) {
                    sort = k;
                }
            }
            if (sort < 0) {
                t.fault(1, first.at);
                return t;
            }
            boolean sworn = !t.lines.get(7).isEmpty();
            if (sort == 7 && sworn) {
                t.fault(3, first.at);
                return t;
            }
            if (sort != 7 && !sworn) {
                t.fault(6, first.at);
                return t;
            }
            if (sort != 7 && t.lines.get(sort).size() == ROOM[sort]) {
                t.fault(5, first.at);
                return t;
            }
            String[] form = LINES[sort].split(" ");
            List<Integer> numbers = new ArrayList<>();
            for (int k = 1; k < form.length; k++) {
                if (!take(t, tokens.get(i + k), form[k], numbers, sort)) {
                    return t;
                }
            }
            t.lines.get(sort).add(numbers.stream().mapToInt(Integer::intValue).toArray());
            i += form.length;
            Token behind = tokens.get(i);
            if (behind.text.isEmpty()) {
                if (t.lines.get(0).isEmpty() || t.lines.get(2).isEmpty()) {
                    t.fault(6, behind.at);
                }
                return t;
            }
            if (!behind.text.equals(";")) {
                t.fault(1, behind.at);
                return t;
            }
            i++;
        }
    }

    private static boolean take(Text t, Token token, String form, List<Integer> numbers, int line) {
        char how = form.charAt(0);
        if (how == '#') {
            if (!token.isWhole()) {
                return t.fault(1, token.at);
            }
            String[] bounds = form.substring(1).split("-");
            int v = Integer.parseInt(token.text);
            if (v < Integer.parseInt(bounds[0]) || v > Integer.parseInt(bounds[1])) {
                return t.fault(4, token.at);
            }
            numbers.add(v);
            return true;
        }
        if (!token.isWord()) {
            return t.fault(1, token.at);
        }
        if (how == '%') {
            int kind = KINDS.indexOf(token.text);
            numbers.add(kind);
            return kind >= 0 || t.fault(1, token.at);
        }
        if (how != '!' && how != '?') {
            return token.text.equals(form) || t.fault(1, token.at);
        }
        if (NO_NAMES.contains(token.text)) {
            return t.fault(1, token.at);
        }
        char sort = form.charAt(1);
        Told known = t.names.get(token.text);
        if (how == '!') {
            if (known != null) {
                return t.fault(3, token.at);
            }
            t.names.put(token.text, new Told(sort, t.namesOf[sort]++));
            return true;
        }
        if (known == null || known.sort != sort) {
            return t.fault(2, token.at);
        }
        if (line == 1 && numbers.size() == 1) {
            int h = numbers.get(0);
            int g = known.number;
            for (int[] sea : t.lines.get(1)) {
                if (sea[0] == h && sea[1] == g || sea[0] == g && sea[1] == h) {
                    return t.fault(3, token.at);
                }
            }
            if (h == g) {
                return t.fault(3, token.at);
            }
        }
        numbers.add(known.number);
        return true;
    }

    private record Fraction(BigInteger upper, BigInteger lower) {
        static Fraction of(long upper, long lower) {
            return new Fraction(BigInteger.valueOf(upper), BigInteger.valueOf(lower));
        }

        Fraction times(Fraction o) {
            return new Fraction(upper.multiply(o.upper), lower.multiply(o.lower));
        }

        Fraction plus(Fraction o) {
            return new Fraction(upper.multiply(o.lower).add(o.upper.multiply(lower)), lower.multiply(o.lower));
        }

        Fraction fromOne() {
            return new Fraction(lower.subtract(upper), lower);
        }

        boolean above(Fraction o) {
            return upper.multiply(o.lower).compareTo(o.upper.multiply(lower)) > 0;
        }

        long lowest(boolean wantLower) {
            BigInteger common = upper.gcd(lower);
            return (wantLower ? lower : upper).divide(common).longValueExact();
        }
    }

    private record Moment(int landing, int harbour, TreeSet<Integer> tried, TreeSet<Integer> brought, int freed, int seed) { }

    private final StringBuilder tape = new StringBuilder();
    private Text told = null;
    private int fault = 0;
    private int place = 0;
    private int trouble = 0;
    private Moment now = new Moment(0, 0, new TreeSet<>(), new TreeSet<>(), -2, 0);
    private final Deque<Moment> ahead = new ArrayDeque<>();
    private final List<Moment> images = new ArrayList<>();

    // ---- what a refusal is

    private long no(int number, long answer) {
        trouble = number;
        return answer;
    }

    private long yes(long answer) {
        trouble = 0;
        return answer;
    }

    private int many(int sort) {
        return told == null ? 0 : told.lines.get(sort).size();
    }

    private int[] line(int sort, int i) {
        return told.lines.get(sort).get(i);
    }

    private boolean is(int sort, long i) {
        return i >= 0 && i < many(sort);
    }

    private static boolean in(long v, long least, long most) {
        return v >= least && v <= most;
    }

    private int years() {
        return line(7, 0)[0];
    }

    private int trial() {
        return line(7, 0)[1];
    }

    private boolean freed() {
        return now.freed != -2;
    }

    // ---- what the terms say

    private boolean sea(int h, int g) {
        for (int i = 0; i < many(1); i++) {
            int[] s = line(1, i);
            if (s[0] == h && s[1] == g || s[0] == g && s[1] == h) {
                return true;
            }
        }
        return false;
    }

    private boolean next(int h, int g) {
        return h == g || sea(h, g);
    }

    private int far(int h, int g) {
        int none = 1000;
        int n = many(0);
        int[][] d = new int[n][n];
        for (int i = 0; i < n; i++) {
            for (int j = 0; j < n; j++) {
                d[i][j] = i == j ? 0 : sea(i, j) ? 1 : none;
            }
        }
        for (int k = 0; k < n; k++) {
            for (int i = 0; i < n; i++) {
                for (int j = 0; j < n; j++) {
                    d[i][j] = Math.min(d[i][j], d[i][k] + d[k][j]);
                }
            }
        }
        return d[h][g] >= none ? -2 : d[h][g];
    }

    private int loveIn(int w, int year, boolean rivals) {
        int[] woman = line(2, w);
        int[] harbour = line(0, woman[1]);
        int age = year - woman[3];
        if (age < 16 || age > 40) {
            return 0;
        }
        int plain = woman[2] * (200 - harbour[0]) / 200;
        int love = woman[0] == 0 ? plain : woman[0] == 1 ? woman[2]
            : woman[0] == 2 ? Math.max(plain, harbour[1] / 2) : plain / 2;
        for (int i = 0; rivals && i < many(3); i++) {
            if (line(3, i)[0] == w) {
                love = love * (100 - line(3, i)[1]) / 100;
            }
        }
        return love;
    }

    private int loveAt(int w, int landing) {
        return loveIn(w, landing * years(), true);
    }

    private Fraction trueAt(int w, int landing) {
        Fraction f = Fraction.of(1, 1);
        for (int day = 0; day < trial(); day++) {
            f = f.times(Fraction.of(loveAt(w, landing), 100));
        }
        return f;
    }

    /** All rows of numbers below many, so long, in order. */
    private static List<int[]> allRows(int many, int length) {
        List<int[]> rows = new ArrayList<>();
        int all = 1;
        for (int i = 0; i < length; i++) {
            all *= many;
        }
        for (int code = 0; code < all; code++) {
            int[] row = new int[length];
            int left = code;
            for (int i = length - 1; i >= 0; i--) {
                row[i] = left % many;
                left /= many;
            }
            rows.add(row);
        }
        return rows;
    }

    private static boolean unlike(int[] row) {
        return Arrays.stream(row).distinct().count() == row.length;
    }

    private List<int[]> routeRows(int n) {
        List<int[]> rows = new ArrayList<>();
        for (int[] row : allRows(many(2), n)) {
            int at = now.harbour;
            boolean good = unlike(row);
            for (int i = 0; i < n && good; i++) {
                int home = line(2, row[i])[1];
                good = !now.tried.contains(row[i]) && next(at, home) && loveAt(row[i], now.landing + 1 + i) > 0;
                at = home;
            }
            if (good) {
                rows.add(row);
            }
        }
        return rows;
    }

    private Fraction any(int[] row) {
        Fraction none = Fraction.of(1, 1);
        for (int i = 0; i < row.length; i++) {
            none = none.times(trueAt(row[i], now.landing + 1 + i).fromOne());
        }
        return none.fromOne();
    }

    private int[] bestRoute(int n) {
        int[] best = null;
        for (int[] row : routeRows(n)) {
            if (best == null || any(row).above(any(best))) {
                best = row;
            }
        }
        return best;
    }

    private int broughtBy(int[] row) {
        int many = 0;
        for (int l = 0; l < many(4); l++) {
            boolean comes = false;
            for (int i = 0; i < row.length; i++) {
                comes |= row[i] == line(4, l)[0] && now.landing + 1 + i <= line(4, l)[1];
            }
            if (comes && !now.brought.contains(l)) {
                many++;
            }
        }
        return many;
    }

    private int[] bestPost(int n) {
        int[] best = null;
        for (int[] row : allRows(many(0), n)) {
            int at = now.harbour;
            boolean good = true;
            for (int h : row) {
                good &= next(at, h);
                at = h;
            }
            if (good && (best == null || broughtBy(row) > broughtBy(best))) {
                best = row;
            }
        }
        return best;
    }

    private int soonestIn(int h) {
        int far = far(now.harbour, h);
        return freed() || far == -2 ? -2 : now.landing + (far == 0 ? 1 : far);
    }

    private int served(int hand, int landing) {
        return line(5, hand)[1] * Math.max(0, landing * years() - line(5, hand)[0]);
    }

    private int[] parts(int much, int landing) {
        int n = many(5);
        int[] got = new int[n];
        long all = 0;
        for (int i = 0; i < n; i++) {
            all += served(i, landing);
        }
        if (all == 0) {
            return got;
        }
        List<Integer> order = new ArrayList<>();
        long[] rest = new long[n];
        int left = much;
        for (int i = 0; i < n; i++) {
            got[i] = (int) ((long) much * served(i, landing) / all);
            rest[i] = (long) much * served(i, landing) % all;
            left -= got[i];
            order.add(i);
        }
        order.sort((a, b) -> Long.compare(rest[b], rest[a]));
        for (int i = 0; i < left; i++) {
            got[order.get(i)]++;
        }
        return got;
    }

    private boolean was(int k, int w) {
        return line(6, k)[0] * years() - line(2, w)[3] == line(6, k)[1];
    }

    private List<int[]> nearlyRows() {
        List<int[]> rows = new ArrayList<>();
        for (int[] row : allRows(many(2), many(6))) {
            boolean good = unlike(row);
            for (int k = 0; k < row.length; k++) {
                good &= was(k, row[k]);
            }
            if (good) {
                rows.add(row);
            }
        }
        return rows;
    }

    private long leaves(List<int[]> rows, int k) {
        long most = 0;
        for (int w = 0; w < many(2); w++) {
            int who = w;
            most = Math.max(most, rows.stream().filter(r -> r[k] == who).count());
        }
        return most;
    }

    private static int drawn(int seed) {
        return (75 * seed + 74) % 65537;
    }

    /** Landing in which he is FREED (0 none), by whom, SEED behind it. */
    private int[] lifeOf(int seed, int n) {
        TreeSet<Integer> tried = new TreeSet<>(now.tried);
        int at = now.harbour;
        for (int i = 1; i <= n; i++) {
            int who = -2;
            for (int w = 0; w < many(2); w++) {
                int love = loveAt(w, now.landing + i);
                if (!tried.contains(w) && next(at, line(2, w)[1]) && love > (who == -2 ? 0 : loveAt(who, now.landing + i))) {
                    who = w;
                }
            }
            if (who == -2) {
                continue;
            }
            at = line(2, who)[1];
            tried.add(who);
            boolean freed = true;
            for (int day = 0; day < trial() && freed; day++) {
                seed = drawn(seed);
                freed = seed % 100 < loveAt(who, now.landing + i);
            }
            if (freed) {
                return new int[] {i, who, seed};
            }
        }
        return new int[] {0, -2, seed};
    }

    private void act(Moment then) {
        ahead.addLast(now);
        if (ahead.size() > 16) {
            ahead.removeFirst();
        }
        now = then;
    }

    private static int father(int asks, int bids) {
        return bids >= asks ? bids : 0;
    }

    private static int captain(int worth, int asks, int bids) {
        return bids >= asks ? worth - bids : 0;
    }

    private static List<Integer> restsOf(int worth) {
        List<Integer> found = new ArrayList<>();
        for (int a = 0; a < 10; a++) {
            for (int b = 0; b < 10; b++) {
                boolean rest = true;
                for (int o = 0; o < 10; o++) {
                    rest &= father(o, b) <= father(a, b) && captain(worth, a, o) <= captain(worth, a, b);
                }
                if (rest) {
                    found.add(10 * a + b);
                }
            }
        }
        return found;
    }

    // ---- the calls, by name

    /** What a call answers (a boolean as 1 or 0); led throws as the document says. */
    long answer(String call, int[] a) {
        switch (call) {
            case "feed": return feed(a);
            case "oath": return oath(a[0]);
            case "fault": return fault;
            case "where": return trouble == 4 ? place : -1;
            case "led": return led(a[0]);
            case "size": return size(a[0]);
            case "trouble": return trouble;
            default: return answerOfTold(call, a);
        }
    }

    private long answerOfTold(String call, int[] a) {
        switch (call) {
            case "harbour": return harbour(a[0], a[1]);
            case "woman": return woman(a[0], a[1]);
            case "age": case "love": case "isTrue": case "alone": return womanAt(call, a);
            case "byYears": return !is(2, a[0]) ? no(1, -1) : !in(a[1], 0, 30) || !in(a[2], 5, 9) ? no(2, -1)
                : yes(loveIn(a[0], a[1] * a[2], true));
            case "bestLanding": case "ofAge": return womanEver(call, a[0]);
            case "present": case "bestYears": return landing(call, a[0]);
            case "belle": return belle(a[0], a[1]);
            case "sevens": return !is(0, a[0]) || !is(0, a[1]) ? no(1, -1) : yes(far(a[0], a[1]));
            case "route": case "mean": case "routeAt": case "routes": return route(call, a);
            case "letters": case "lettersAt": return post(call, a);
            case "lost": return lost();
            case "soonest": return !is(0, a[0]) ? no(1, -1) : yes(soonestIn(a[0]));
            case "bells": return bells();
            case "bid": case "rests": case "rest": return trade(call, a);
            case "part": case "service": case "bestHand": return crew(call, a);
            case "rows": case "could": case "surely": case "firstOf": case "ask": case "askLeaves": case "judge":
                return nearly(call, a);
            case "life": case "lifeBy": case "lives": return lives(call, a[0], a[1]);
            case "sail": return sail(a[0]);
            case "court": return court(a[0]);
            case "seed": case "undo": case "image": case "back": return keeping(call, a);
            default: throw new IllegalStateException(call);
        }
    }

    private long feed(int[] a) {
        if (tape.length() + 20 > 900) {
            return -1;
        }
        for (int number : a) {
            for (int i = 0; i < 4; i++) {
                tape.append((char) (number >>> 24 - 8 * i & 255));
            }
        }
        return tape.length();
    }

    private long oath(int n) {
        if (n < 0 || n > tape.length()) {
            return no(2, -1);
        }
        Text t = read(tape.substring(0, n));
        tape.setLength(0);
        fault = t.fault;
        place = t.place;
        if (fault != 0) {
            return no(4, -1);
        }
        told = t;
        now = new Moment(0, 0, new TreeSet<>(), new TreeSet<>(), -2, 0);
        ahead.clear();
        images.clear();
        return yes(many(2));
    }

    private long led(int i) {
        if (i < 0 || i >= now.brought.size()) {
            throw new NoSuchElementException();
        }
        return new ArrayList<>(now.brought).get(i);
    }

    private long size(int what) {
        if (what < 0 || what > 15) {
            return -1;
        }
        if (what >= 2 && what <= 8) {
            return many(what - 2);
        }
        int freed = told == null ? 0 : now.freed;
        int[] rest = {now.landing, now.harbour, freed, now.seed, ahead.size(), images.size(), tape.length()};
        return what >= 9 ? rest[what - 9] : told == null ? 0 : line(7, 0)[what];
    }

    private long harbour(int h, int what) {
        if (!is(0, h) || what < 0 || what > 3) {
            return no(1, -1);
        }
        if (what < 2) {
            return yes(line(0, h)[what]);
        }
        long bits = 0;
        for (int i = 0; i < (what == 2 ? many(0) : many(2)); i++) {
            if (what == 2 ? sea(h, i) : line(2, i)[1] == h) {
                bits += 1L << i;
            }
        }
        return yes(bits);
    }

    private long woman(int w, int what) {
        if (!is(2, w) || what < 0 || what > 5) {
            return no(1, -1);
        }
        if (what < 4) {
            return yes(line(2, w)[what]);
        }
        if (what == 5) {
            return yes(now.tried.contains(w) ? 1 : 0);
        }
        return yes(told.lines.get(3).stream().filter(r -> r[0] == w).count());
    }

    private long womanAt(String call, int[] a) {
        int none = call.equals("age") ? -1000 : -1;
        if (!is(2, a[0])) {
            return no(1, none);
        }
        if (!in(a[1], 0, 30)) {
            return no(2, none);
        }
        switch (call) {
            case "age": return yes(a[1] * years() - line(2, a[0])[3]);
            case "love": return yes(loveAt(a[0], a[1]));
            case "alone": return yes(loveIn(a[0], a[1] * years(), false));
            default: return yes(trueAt(a[0], a[1]).lowest(a[2] != 0));
        }
    }

    private long womanEver(String call, int w) {
        if (!is(2, w)) {
            return no(1, -1);
        }
        long bits = 0;
        int best = -2;
        for (int l = 0; l <= 30; l++) {
            int age = l * years() - line(2, w)[3];
            bits += age >= 16 && age <= 40 ? 1L << l : 0;
            if (loveAt(w, l) > (best == -2 ? 0 : loveAt(w, best))) {
                best = l;
            }
        }
        return yes(call.equals("ofAge") ? bits : best);
    }

    private long landing(String call, int l) {
        if (told == null || !in(l, 0, 30)) {
            return no(told == null ? 1 : 2, -1);
        }
        long bits = 0;
        for (int w = 0; w < many(2); w++) {
            bits += loveAt(w, l) > 0 ? 1L << w : 0;
        }
        int best = 0;
        int most = -1;
        for (int y = 5; y <= 9; y++) {
            int sum = 0;
            for (int w = 0; w < many(2); w++) {
                sum += loveIn(w, y * l, true);
            }
            best = sum > most ? y : best;
            most = Math.max(most, sum);
        }
        return yes(call.equals("present") ? bits : best);
    }

    private long belle(int h, int l) {
        if (!is(0, h) || !in(l, 0, 30)) {
            return no(is(0, h) ? 2 : 1, -1);
        }
        int best = -2;
        for (int w = 0; w < many(2); w++) {
            if (line(2, w)[1] == h && loveAt(w, l) > (best == -2 ? 0 : loveAt(best, l))) {
                best = w;
            }
        }
        return yes(best);
    }

    private long route(String call, int[] a) {
        if (told == null || !in(a[0], 1, 3) || freed()) {
            return no(told == null ? 1 : !in(a[0], 1, 3) ? 2 : 5, -1);
        }
        int[] best = bestRoute(a[0]);
        switch (call) {
            case "routes": return yes(routeRows(a[0]).size());
            case "route": return yes((best == null ? Fraction.of(0, 1) : any(best)).lowest(a[1] != 0));
            case "routeAt": return best == null ? no(6, -1) : !in(a[1], 0, a[0] - 1) ? no(1, -1) : yes(best[a[1]]);
            default:
                Fraction sum = Fraction.of(0, 1);
                for (int i = 0; best != null && i < best.length; i++) {
                    sum = sum.plus(trueAt(best[i], now.landing + 1 + i));
                }
                return yes(sum.lowest(a[1] != 0));
        }
    }

    private long post(String call, int[] a) {
        if (told == null || !in(a[0], 0, 5) || freed()) {
            return no(told == null ? 1 : !in(a[0], 0, 5) ? 2 : 5, -1);
        }
        int[] best = bestPost(a[0]);
        if (call.equals("letters")) {
            return yes(broughtBy(best));
        }
        return in(a[1], 0, a[0] - 1) ? yes(best[a[1]]) : no(1, -1);
    }

    private long lost() {
        if (told == null) {
            return no(1, -1);
        }
        long bits = 0;
        for (int l = 0; l < many(4); l++) {
            int soonest = soonestIn(line(4, l)[0]);
            if (!now.brought.contains(l) && (soonest == -2 || soonest > line(4, l)[1])) {
                bits += 1L << l;
            }
        }
        return yes(bits);
    }

    private long bells() {
        if (told == null) {
            return no(1, -1);
        }
        int best = -1;
        for (int bits = 0; bits < 1 << many(0); bits++) {
            boolean all = true;
            for (int h = 0; h < many(0); h++) {
                boolean heard = false;
                for (int g = 0; g < many(0); g++) {
                    heard |= (bits >> g & 1) == 1 && next(h, g);
                }
                all &= heard;
            }
            if (all && (best == -1 || Integer.bitCount(bits) < Integer.bitCount(best))) {
                best = bits;
            }
        }
        return yes(best);
    }

    private long trade(String call, int[] a) {
        boolean bids = call.equals("bid");
        boolean good = in(a[0], 0, 99) && (!bids || in(a[1], 0, 9) && in(a[2], 0, 9));
        if (told == null || !good) {
            return no(told == null ? 1 : 2, bids ? -100 : -1);
        }
        if (bids) {
            return yes(a[3] != 0 ? captain(a[0], a[1], a[2]) : father(a[1], a[2]));
        }
        List<Integer> all = restsOf(a[0]);
        return yes(call.equals("rests") ? all.size() : all.isEmpty() ? -2 : all.get(0));
    }

    private long crew(String call, int[] a) {
        if (call.equals("service")) {
            return !is(5, a[0]) ? no(1, -1) : !in(a[1], 0, 30) ? no(2, -1) : yes(served(a[0], a[1]));
        }
        if (call.equals("part")) {
            return !is(5, a[0]) ? no(1, -1) : !in(a[1], 0, 999) || !in(a[2], 0, 30) ? no(2, -1)
                : yes(parts(a[1], a[2])[a[0]]);
        }
        if (told == null || !in(a[0], 0, 999) || !in(a[1], 0, 30)) {
            return no(told == null ? 1 : 2, -1);
        }
        int[] got = parts(a[0], a[1]);
        int best = -2;
        for (int i = 0; i < got.length; i++) {
            if (got[i] > (best == -2 ? 0 : got[best])) {
                best = i;
            }
        }
        return yes(best);
    }

    private long nearly(String call, int[] a) {
        boolean one = call.equals("could") || call.equals("surely") || call.equals("firstOf");
        if (told == null || one && !is(6, a[0])) {
            return no(1, -1);
        }
        if (call.equals("judge")) {
            for (int k = 0; k < many(6); k++) {
                boolean any = false;
                for (int w = 0; w < many(2); w++) {
                    any |= was(k, w);
                }
                if (!any) {
                    return yes(k);
                }
            }
            return yes(-2);
        }
        if (many(6) == 0) {
            return no(6, -1);
        }
        List<int[]> rows = nearlyRows();
        TreeSet<Integer> could = new TreeSet<>();
        for (int[] row : rows) {
            could.add(one ? row[a[0]] : 0);
        }
        switch (call) {
            case "rows": return yes(rows.size());
            case "could": return yes(could.stream().mapToInt(w -> 1 << w).sum());
            case "surely": return yes(could.size() == 1 ? could.first() : -2);
            case "firstOf": return yes(rows.isEmpty() ? -2 : rows.get(0)[a[0]]);
            default:
                int best = 0;
                for (int k = 1; k < many(6); k++) {
                    best = leaves(rows, k) < leaves(rows, best) ? k : best;
                }
                return yes(rows.isEmpty() ? -2 : call.equals("ask") ? best : leaves(rows, best));
        }
    }

    private long lives(String call, int seed, int n) {
        boolean several = call.equals("lives");
        boolean good = in(seed, 0, 65536) && (several ? in(n, 1, 30) : in(n, 0, 20));
        if (told == null || !good || freed()) {
            return no(told == null ? 1 : !good ? 2 : 5, -1);
        }
        if (!several) {
            return yes(lifeOf(seed, n)[call.equals("life") ? 0 : 1]);
        }
        int found = 0;
        int going = seed;
        for (int i = 0; i < n; i++) {
            int[] l = lifeOf(going, 3);
            going = l[2];
            found += l[0] > 0 ? 1 : 0;
        }
        return yes(found);
    }

    private long sail(int h) {
        if (!is(0, h)) {
            return no(1, -1);
        }
        if (freed() || !next(now.harbour, h)) {
            return no(5, -1);
        }
        if (now.landing == 30) {
            return no(3, -1);
        }
        TreeSet<Integer> brought = new TreeSet<>(now.brought);
        for (int l = 0; l < many(4); l++) {
            if (line(4, l)[0] == h && now.landing + 1 <= line(4, l)[1]) {
                brought.add(l);
            }
        }
        act(new Moment(now.landing + 1, h, now.tried, brought, now.freed, now.seed));
        return yes(now.landing);
    }

    private long court(int w) {
        if (!is(2, w)) {
            return no(1, -1);
        }
        if (freed() || line(2, w)[1] != now.harbour || now.tried.contains(w)) {
            return no(5, -1);
        }
        int seed = now.seed;
        boolean all = true;
        for (int day = 0; day < trial() && all; day++) {
            seed = drawn(seed);
            all = seed % 100 < loveAt(w, now.landing);
        }
        TreeSet<Integer> tried = new TreeSet<>(now.tried);
        tried.add(w);
        act(new Moment(now.landing, now.harbour, tried, now.brought, all ? w : -2, seed));
        return yes(all ? 1 : 0);
    }

    private long keeping(String call, int[] a) {
        switch (call) {
            case "seed":
                if (told == null || !in(a[0], 0, 65536)) {
                    return no(told == null ? 1 : 2, 0);
                }
                now = new Moment(now.landing, now.harbour, now.tried, now.brought, now.freed, a[0]);
                return yes(1);
            case "undo":
                if (ahead.isEmpty()) {
                    return no(6, 0);
                }
                now = ahead.removeLast();
                return yes(1);
            case "image":
                if (told == null || images.size() == 3) {
                    return no(told == null ? 1 : 3, -1);
                }
                images.add(now);
                return yes(images.size() - 1);
            default:
                if (a[0] < 0 || a[0] >= images.size()) {
                    return no(1, 0);
                }
                now = images.get(a[0]);
                ahead.clear();
                return yes(1);
        }
    }
}
