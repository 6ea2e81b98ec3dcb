import java.io.IOException;
import java.nio.file.Files;
import java.nio.file.Path;
import java.util.List;

/** The calls of README.md, in their order, answer what stands behind them there. */
public final class ReadmeTest {
    private final List<String> lines;
    private int next = 0;

    private ReadmeTest(List<String> lines) {
        this.lines = lines;
    }

    public static void main(String[] args) throws IOException {
        new ReadmeTest(Files.readAllLines(Path.of("README.md"))).promises();
        Check.done();
    }

    private void promises() {
        ChordCanal canal = new ChordCanal();
        says("int barge = canal.addBarge(7, 2, true);", canal.addBarge(7, 2, true));
        says("canal.canPass(barge);", canal.canPass(0));
        says("canal.hoursUntilLeaving(barge);", canal.hoursUntilLeaving(0));
        says("canal.advance(5);", canal.advance(5));
        says("canal.undo();", canal.undo());
        says("canal.tune(0, 1, 3);", canal.tune(0, 1, 3));
        says("canal.setDemand(0, 'm');", canal.setDemand(0, 'm'));
        says("canal.runScript();", typed("barge 7 1u;hour 2", canal));
        String text = ": the length of the text \"" + Canals.picture(canal) + "\"";
        says("canal.renderCanal();", canal.renderCanal() + text);
        says("canal.runScript();", typed("hour 2;fix 0 x", canal));
        says("canal.errorPosition();", canal.errorPosition());
        says("canal.runScript();", typed("hour 2;leave 9", canal));
        says("canal.failedCommand();", canal.failedCommand());
        Check.same("calls of README.md that are not tested", "", nextLine());
    }

    private String typed(String script, ChordCanal canal) {
        Check.same("typed", "type(canal, \"" + script + "\");", nextLine());
        return Canals.run(canal, script);
    }

    /** The next call of README.md is this one, and the answer stands behind it. */
    private void says(String call, Object answer) {
        String[] sides = nextLine().split(" +// ", 2);
        Check.same("call", call, sides[0]);
        boolean fits = sides.length == 2 && (sides[1] + ":").startsWith(answer + ":");
        Check.same(call + " answers " + answer + ", as README.md says", true, fits);
    }

    /** The next line of README.md that calls something, or nothing. */
    private String nextLine() {
        while (next < lines.size() && !isCall(lines.get(next))) {
            next++;
        }
        next++;
        return next > lines.size() ? "" : lines.get(next - 1).strip();
    }

    private static boolean isCall(String line) {
        return line.contains("; ") && line.contains("canal.") || line.contains("type(canal, ");
    }
}
