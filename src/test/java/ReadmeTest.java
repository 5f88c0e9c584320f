import java.io.IOException;
import java.lang.reflect.Method;
import java.lang.reflect.Modifier;
import java.nio.file.Files;
import java.nio.file.Path;
import java.util.ArrayList;
import java.util.List;

/** README.md: the rows of its examples, in their order, answer what stands behind them. */
public final class ReadmeTest {
    // The numbers of the parts, as the rows of README.md that make them say.
    private static final int LASER = 0;
    private static final int GUIDE = 1;
    private static final int RING = 2;
    private static final int OVER = 3;
    private static final int THROUGH = 4;

    private static List<String> rows;
    private static int at = 0;
    private static Ringresonance chip;

    public static void main(String[] args) throws IOException {
        rows = rowsOf(Path.of("README.md"));
        parts();
        layout();
        trials();
        asking();
        refused();
        Check.due("rows of README.md that were run", at, rows.size());
        eachCallStands();
        Check.end();
    }

    private static void parts() {
        chip = new Ringresonance();
        made("Ringresonance chip = new Ringresonance();");
        row("int laser = chip.part(Ringresonance.LASER, 0, 0, 3, 100);",
                () -> chip.part(Ringresonance.LASER, 0, 0, 3, 100));
        row("int guide = chip.part(Ringresonance.GUIDE, 1, 0, 2, 10);",
                () -> chip.part(Ringresonance.GUIDE, 1, 0, 2, 10));
        row("int ring = chip.part(Ringresonance.RING, 2, 0, 3, 0);",
                () -> chip.part(Ringresonance.RING, 2, 0, 3, 0));
        row("int over = chip.part(Ringresonance.DETECTOR, 3, 0, 0, 0);",
                () -> chip.part(Ringresonance.DETECTOR, 3, 0, 0, 0));
        row("int through = chip.part(Ringresonance.DETECTOR, 2, 1, 0, 0);",
                () -> chip.part(Ringresonance.DETECTOR, 2, 1, 0, 0));
        row("chip.lead(laser, 0, guide, 0);", () -> chip.lead(LASER, 0, GUIDE, 0));
        row("chip.lead(guide, 0, ring, 0);", () -> chip.lead(GUIDE, 0, RING, 0));
        row("chip.lead(ring, 1, over, 0);", () -> chip.lead(RING, 1, OVER, 0));
        row("chip.lead(ring, 0, through, 0);", () -> chip.lead(RING, 0, THROUGH, 0));
        row("chip.run(10);", () -> chip.run(10));
        row("chip.set(ring, 2);", () -> chip.set(RING, 2));
        row("chip.lock(ring, 3);", () -> chip.lock(RING, 3));
        row("chip.run(5);", () -> chip.run(5));
        row("chip.lock(ring, Ringresonance.NONE);", () -> chip.lock(RING, Ringresonance.NONE));
        row("chip.cut(ring, 0);", () -> chip.cut(RING, 0));
        row("chip.run(1);", () -> chip.run(1));
        row("chip.lead(ring, 0, through, 0);", () -> chip.lead(RING, 0, THROUGH, 0));
    }

    private static void layout() {
        row("chip.conflicts();", () -> chip.conflicts());
        row("chip.spacing(2);", () -> chip.spacing(2));
        row("chip.conflicts();", () -> chip.conflicts());
    }

    private static void trials() {
        row("chip.trial(over, 0, 20);", () -> chip.trial(OVER, 0, 20));
        row("chip.trial(over, -1, 20);", () -> chip.trial(OVER, -1, 20));
        row("chip.trial(over, 7, 20);", () -> chip.trial(OVER, 7, 20));
        row("chip.yields(over, 20, 288);", () -> chip.yields(OVER, 20, 288));
    }

    private static void asking() {
        for (int i = 0; i < 6; i++) {
            int what = i;
            row("chip.ofPart(ring, " + what + ");", () -> chip.ofPart(RING, what));
        }
        row("chip.comes(guide, 0, 3);", () -> chip.comes(GUIDE, 0, 3));
        row("chip.seen(over, 3);", () -> chip.seen(OVER, 3));
        row("chip.seen(through, Ringresonance.NONE);", () -> chip.seen(THROUGH, Ringresonance.NONE));
        for (int i = 0; i < 5; i++) {
            int what = i;
            row("chip.account(" + what + ");", () -> chip.account(what));
        }
        row("chip.tick();", () -> chip.tick());
    }

    private static void refused() {
        row("chip.cut(over, 0);", () -> chip.cut(OVER, 0));
        row("chip.run(101);", () -> chip.run(101));
        row("chip.lead(laser, 0, ring, 0);", () -> chip.lead(LASER, 0, RING, 0));
        row("chip.lock(guide, 3);", () -> chip.lock(GUIDE, 3));
    }

    private static void eachCallStands() {
        for (Method method : Ringresonance.class.getDeclaredMethods()) {
            if (Modifier.isPublic(method.getModifiers())) {
                String call = "chip." + method.getName() + "(";
                boolean stands = rows.stream().anyMatch(row -> row.contains(call));
                Check.same("README.md has a row with " + call, stands ? "yes" : "no", "yes");
            }
        }
    }

    private static List<String> rowsOf(Path page) throws IOException {
        List<String> found = new ArrayList<>();
        boolean inside = false;
        for (String line : Files.readAllLines(page)) {
            if (line.startsWith("```")) {
                inside = line.equals("```java");
            } else if (inside) {
                found.add(line);
            }
        }
        return found;
    }

    private static String next() {
        String row = at < rows.size() ? rows.get(at) : "";
        at++;
        return row;
    }

    private static void made(String code) {
        Check.same("a row of README.md", next(), code);
    }

    /** The next row of README.md must be that code, and behind it the answer of the call. */
    private static void row(String code, Check.Call call) {
        String row = next();
        String outcome = Check.outcome(call).replace("throws.", "");
        int cut = row.indexOf("//");
        Check.same("a row of README.md", cut < 0 ? row : row.substring(0, cut).strip(), code);
        String said = cut < 0 ? "nothing" : row.substring(cut + 2).split(":", 2)[0].strip();
        Check.same(code + " in README.md", outcome, said);
    }
}
