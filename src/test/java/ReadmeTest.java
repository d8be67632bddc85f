import java.nio.file.Files;
import java.nio.file.Path;
import java.util.ArrayList;
import java.util.List;
import java.util.function.Supplier;

/** The example of README.md, line by line: the call, and behind it the answer as it stands there. */
public final class ReadmeTest {
    private static final Checks IS = new Checks();
    private static final List<String> LINES = new ArrayList<>();
    private static int next;

    public static void main(String[] args) throws Exception {
        readExample();
        BranchQuarry quarry = new BranchQuarry();
        line("quarry.addColumn(-3, 0, 9, true);", () -> quarry.addColumn(-3, 0, 9, true));
        line("quarry.addColumn(-4, 0, 9, true);", () -> quarry.addColumn(-4, 0, 9, true));
        line("quarry.addRow('l', 13, 2, 4, 0, 0);", () -> quarry.addRow('l', 13, 2, 4, 0, 0));
        line("quarry.addRow('l', 9, 3, 2, 0, 0);", () -> quarry.addRow('l', 9, 3, 2, 0, 0));
        line("quarry.tighten();", quarry::tighten);
        line("quarry.upper(0);", () -> quarry.upper(0));
        line("quarry.begin('b', 'f');", () -> quarry.begin('b', 'f'));
        line("quarry.offer(1, 1, 0, 0);", () -> quarry.offer(1, 1, 0, 0));
        line("quarry.best();", quarry::best);
        line("quarry.solve(1);", () -> quarry.solve(1));
        line("quarry.state(0);", () -> quarry.state(0));
        line("quarry.value(0);", () -> quarry.value(0));
        line("quarry.point(0, 0);", () -> quarry.point(0, 0));
        line("quarry.gap();", quarry::gap);
        line("quarry.round(0);", () -> quarry.round(0));
        line("quarry.cutByRounding(0, 0, 4);", () -> quarry.cutByRounding(0, 0, 4));
        line("quarry.solve(41);", () -> quarry.solve(41));
        line("quarry.best();", quarry::best);
        line("quarry.solution(1);", () -> quarry.solution(1));
        line("quarry.bound();", quarry::bound);
        line("quarry.addRow('l', 2, 0, 1, 0, 0);", () -> quarry.addRow('l', 2, 0, 1, 0, 0));
        line("quarry.nodes();", quarry::nodes);
        line("quarry.solve(41);", () -> quarry.solve(41));
        line("quarry.best();", quarry::best);
        line("quarry.addRow('g', 9, 1, 1, 0, 0);", () -> quarry.addRow('g', 9, 1, 1, 0, 0));
        line("quarry.unkept();", quarry::unkept);
        IS.same("lines of README.md that were not tried", LINES.size(), next);
        fractionsApart();
        IS.end("ReadmeTest");
    }

    /** The lines of the example that make a call. */
    private static void readExample() throws Exception {
        for (String line : Files.readAllLines(Path.of("README.md"))) {
            if (line.startsWith("quarry.")) {
                LINES.add(line);
            }
        }
    }

    private static void line(String call, Supplier<Object> made) {
        String line = next < LINES.size() ? LINES.get(next) : "no line // none";
        next++;
        int comment = line.indexOf("//");
        IS.same("line " + next + " of README.md", call, line.substring(0, comment).strip());
        String answer = line.substring(comment + 2).strip().split("[ ,:]")[0];
        IS.same(call + " in README.md", answer, Checks.answer(made));
    }

    private static void fractionsApart() {
        long told = Checks.fraction(-57, 4);
        IS.same("the top", -57L, Math.floorDiv(told, 100000L));
        IS.same("the bottom", 4L, Math.floorMod(told, 100000L));
    }
}
