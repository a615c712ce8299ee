import java.io.IOException;
import java.nio.file.Files;
import java.nio.file.Path;
import java.util.ArrayList;
import java.util.List;

/** Makes the calls of README.md's example; the answer that stands behind a call is the one due. */
public final class ReadmeTest {
    private static final String FIRST_LINE = "CupDraw cup = new CupDraw();";

    private final Checks checks = new Checks();
    private final List<String> lines;
    private int next;

    private ReadmeTest(List<String> lines) {
        this.lines = lines;
    }

    public static void main(String[] args) throws IOException {
        new ReadmeTest(example(Files.readAllLines(Path.of("README.md")))).run();
    }

    /** The example's calls, a line each, behind the line that makes the object. */
    private static List<String> example(List<String> readme) {
        List<String> lines = new ArrayList<>();
        int at = readme.indexOf(FIRST_LINE) + 1;
        while (at > 0 && at < readme.size() && !readme.get(at).equals("```")) {
            if (!readme.get(at).isEmpty()) {
                lines.add(readme.get(at));
            }
            at++;
        }
        return lines;
    }

    private void run() {
        CupDraw cup = new CupDraw();
        step("cup.lay(3, 3);", () -> cup.lay(3, 3));
        step("cup.setRegion(0, 1);", () -> cup.setRegion(0, 1));
        step("cup.setRegion(3, 1);", () -> cup.setRegion(3, 1));
        step("cup.setBound(1, 1);", () -> cup.setBound(1, 1));
        step("cup.setApart(4, 8, true);", () -> cup.setApart(4, 8, true));
        step("cup.setOtherDays(1, 5, true);", () -> cup.setOtherDays(1, 5, true));
        step("cup.results();", cup::results);
        step("cup.orders();", cup::orders);
        step("cup.pot();", cup::pot);
        step("cup.left();", cup::left);
        step("cup.ballAt(2);", () -> cup.ballAt(2));
        step("cup.draw(2);", () -> cup.draw(2));
        step("cup.drawn();", cup::drawn);
        step("cup.groupOf(2);", () -> cup.groupOf(2));
        step("cup.teamAt(0, 0);", () -> cup.teamAt(0, 0));
        step("cup.teamAt(1, 0);", () -> cup.teamAt(1, 0));
        step("cup.results();", cup::results);
        step("cup.fits(3, 0);", () -> cup.fits(3, 0));
        step("cup.evenly(3, 0);", () -> cup.evenly(3, 0));
        step("cup.forced(3);", () -> cup.forced(3));
        step("cup.forced(2);", () -> cup.forced(2));
        step("cup.orders();", cup::orders);
        step("cup.chances(3, 0);", () -> cup.chances(3, 0));
        step("cup.pairings(2, 5);", () -> cup.pairings(2, 5));
        step("cup.undo();", cup::undo);
        step("cup.results();", cup::results);
        checks.due("lines of README.md's example", next, lines::size);
        checks.end("ReadmeTest");
    }

    /** Holds the example's next line to the call and its answer. */
    private void step(String call, Checks.Call run) {
        String line = next < lines.size() ? lines.get(next) : "no line";
        next++;
        String told = call + " // " + Checks.answerOf(run) + ":";
        String shown = line.replaceFirst(" +// ", " // ");
        checks.due("README.md: " + line + " | the class: " + told, true,
                () -> shown.startsWith(told));
    }
}
