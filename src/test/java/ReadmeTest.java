import java.nio.file.Files;
import java.nio.file.Path;
import java.util.ArrayList;
import java.util.List;

/** The examples of README.md: each line's call is made here, and answers what is told behind it. */
public final class ReadmeTest {
    private static final List<String> shown = new ArrayList<>();
    private static int next = 0;

    public static void main(String[] args) throws Exception {
        for (String line : Files.readAllLines(Path.of("README.md"))) {
            if (line.matches("(office|texts)\\..*;.*")) {
                shown.add(line);
            }
        }
        office(new EscheatLots());
        texts(new EscheatLots());
        Due.due("lines of the examples", next, shown.size());
        Due.end();
    }

    private static void line(String call, int answer) {
        String line = next < shown.size() ? shown.get(next) : "";
        next++;
        Due.due("README.md, line " + next, line.replaceAll(":.*", "").replaceAll(" +", " "), call + "; // " + answer);
    }

    private static void office(EscheatLots office) {
        line("office.lot(1000)", office.lot(1000));
        line("office.notice(0)", office.notice(0));
        line("office.fallsIn(0)", office.fallsIn(0));
        line("office.claim(3, 0, 2)", office.claim(3, 0, 2));
        line("office.why(0)", office.why(0));
        line("office.nextLapse(0)", office.nextLapse(0));
        line("office.pass(10)", office.pass(10));
        line("office.prove(0, 70)", office.prove(0, 70));
        line("office.decide(0)", office.decide(0));
        line("office.share(0, 3, 0)", office.share(0, 3, 0));
        line("office.settle(0)", office.settle(0));
        line("office.heir(3, 0)", office.heir(3, 0));
        line("office.undo()", office.undo());
        line("office.heir(3, 0)", office.heir(3, 0));
    }

    private static void texts(EscheatLots texts) {
        line("texts.put(0x6C3530303B6E30L)", texts.put(0x6C3530303B6E30L));
        line("texts.fault()", texts.fault());
        line("texts.carryOut()", texts.carryOut());
    }
}
