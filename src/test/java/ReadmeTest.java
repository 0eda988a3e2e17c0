import java.io.IOException;
import java.nio.file.Files;
import java.nio.file.Path;
import java.util.ArrayList;
import java.util.List;
import java.util.regex.Matcher;
import java.util.regex.Pattern;

/** The page that tells how the class is used is right: its oath, its calls, and what a refused one answers. */
public final class ReadmeTest {
    private static final Pattern CALL = Pattern.compile("x\\.(\\w+\\(.*\\)); +// (-?\\d+|true|false)\\b.*");
    private static final Pattern NAME = Pattern.compile("`(\\w+)`");

    /** Calls that tell no number: they are never refused, or by a throw. */
    private static final List<String> NEVER = List.of("feed", "fault", "where", "led", "size", "trouble");

    private final Check check = new Check("ReadmeTest");
    private final List<String> page;

    private ReadmeTest(List<String> page) {
        this.page = page;
    }

    public static void main(String[] args) throws IOException {
        ReadmeTest t = new ReadmeTest(Files.readAllLines(Path.of("README.md")));
        t.calls();
        t.refused();
        t.check.due("the page names the command", t.page.contains("    .ci/run"), true);
        t.check.end();
    }

    private String oath() {
        int from = page.indexOf("```text");
        StringBuilder text = new StringBuilder();
        for (int i = from + 1; !page.get(i).equals("```"); i++) {
            text.append(page.get(i));
        }
        return text.toString();
    }

    private void calls() {
        SworeCaptain x = new SworeCaptain();
        Check.feed(x, oath());
        int seen = 0;
        for (String line : page) {
            Matcher m = CALL.matcher(line);
            if (m.matches()) {
                seen++;
                String due = m.group(2);
                long want = due.equals("true") ? 1 : due.equals("false") ? 0 : Long.parseLong(due);
                check.due(line, Call.of(m.group(1)).on(x), want);
            }
        }
        check.due("the page shows its calls", seen > 20, true);
        check.due("it shows how many bytes the text has", page.stream().anyMatch(l -> l.startsWith("x.oath(" + oath().length() + ");")), true);
    }

    /** Without an oath every call that may be refused is, but for those that the tape alone is asked of. */
    private void refused() {
        List<String> others = new ArrayList<>(Call.names());
        others.removeAll(NEVER);
        for (String line : page) {
            String[] cells = line.split("\\|");
            if (cells.length != 3 || !cells[1].contains("`")) {
                continue;
            }
            Matcher m = NAME.matcher(cells[1]);
            while (m.find()) {
                String said = cells[2].replace(",", "").trim();
                long want = said.startsWith("throws") ? Check.THROWS : said.equals("false") ? 0 : Long.parseLong(said);
                check.due(m.group(1) + " without an oath", Call.plainest(m.group(1)).on(new SworeCaptain()), want);
                others.remove(m.group(1));
            }
        }
        for (String name : others) {
            SworeCaptain x = new SworeCaptain();
            check.due(x, name + " without an oath", Call.plainest(name).on(x), SworeCaptain.NONE, name.equals("oath") ? 2 : 1);
        }
        check.due("calls that the table doesn't name", others.size(), 40);
    }
}
