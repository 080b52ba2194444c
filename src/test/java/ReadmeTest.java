import java.io.IOException;
import java.nio.file.Files;
import java.nio.file.Path;
import java.util.ArrayList;
import java.util.List;

/** The example of README.md: its lines stand in this file as they stand there, and answer what it says. */
public final class ReadmeTest {
    private static final Path README = Path.of("README.md");
    private static final Path THIS = Path.of("src/test/java/ReadmeTest.java");

    public static void main(String[] args) throws IOException {
        Check.report("README.md's example is the one below", lines(README, "```java", "```").toString(),
                lines(THIS, "// The example begins.", "// The example ends.").toString());
        example();
        Check.end();
    }

    private static void example() {
        // The example begins.
        HeatOrder order = new HeatOrder();
        order.heat(0, 1000, 60, 50, 400, 3);      // 0, its number: grade, width, melt, cast, due, casters
        order.heat(0, 1100, 60, 50, 100, 1);      // 1, on caster 0 alone
        order.heat(1, 1000, 40, 70, 200, 1);      // 2
        order.due(0, 300);                        // heat 0 may end as late as minute 300
        order.rules(60, 40, 10, 4, 200);          // hold, change, gap, life, jump: those of a new object
        order.costs(500, 1);                      // of a change, of a late minute: those of a new object
        order.move(0, 1, 30);                     // grade 1 may follow grade 0, for 30

        int cost = order.run(100000);             // 40, the best plan's cost
        int proved = order.planned(0);            // 1: there is no better one
        int first = order.step(0, 0);             // 1, the heat that is melted first
        int begins = order.step(1, 4);            // 110: then heat 2 is cast
        int late = order.told(2);                 // 10 minutes, of heat 1

        int dearer = order.tell(0x210, 3);        // 140: heats 0, 1, 2, all on caster 0
        int least = order.bound();                // 10: no plan costs less
        int none = order.clash();                 // 0: some plan is good
        order.rules(0, 500, 0, 1, 0);             // no waiting, and a change ahead of each heat
        int clash = order.clash();                // 6, as bits: heats 1 and 2
        // The example ends.
        Check.due("cost", 40, () -> cost);
        Check.due("proved", 1, () -> proved);
        Check.due("first", 1, () -> first);
        Check.due("begins", 110, () -> begins);
        Check.due("late", 10, () -> late);
        Check.due("dearer", 140, () -> dearer);
        Check.due("least", 10, () -> least);
        Check.due("none", 0, () -> none);
        Check.due("clash", 6, () -> clash);
    }

    /** The lines between two lines, without what they are set in by. */
    private static List<String> lines(Path file, String begin, String end) throws IOException {
        List<String> between = new ArrayList<>();
        boolean inside = false;
        for (String line : Files.readAllLines(file)) {
            String text = line.strip();
            if (inside && text.equals(end)) {
                return between;
            }
            if (inside) {
                between.add(text);
            }
            inside |= text.equals(begin);
        }
        return List.of("no end in " + file);
    }
}
