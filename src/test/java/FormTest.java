import java.util.Set;
import java.util.TreeSet;

/** Promises 50 and 51: scripts with one sign changed, against the form that the document itself writes. */
public final class FormTest {
    private static final String[] SCRIPTS = {"barge 7 1d", "barge 11 9u", "barge 007 0d", "tune 0 1 11", "tune 9 9 999",
        "fix 4 1", "demand 2 M", "demand 0 m", "demand 3 d", "demand 9 a", "flow 9", "fill 5 30", "fill 0 1", "leave 0",
        "leave 100", "hour", "hour 5", "hour 100", "hour;hour 12;flow 3", "flow 1;fill 0 1;fix 0 0",
        "demand 1 M;demand 1 m;leave 9", "barge 7 1d;barge 0 1u;hour;hour 001;fill 1 1;fix 1 1;flow 10",
        "hour;hour;hour;hour;hour;hour;hour;hour;hour;hour;hour;hour",
        "tune 0 0 1;tune 0 1 2;tune 0 0 3;tune 0 1 4;fix 4 0;fix 4 0"};

    public static void main(String[] args) {
        for (String script : scripts()) {
            promises50And51(script);
        }
        Check.done();
    }

    /** Every beginning of the scripts, and each with one sign less, one more, or another one. */
    private static Set<String> scripts() {
        Set<String> scripts = new TreeSet<>();
        for (String script : SCRIPTS) {
            for (int place = 0; place <= script.length(); place++) {
                String before = script.substring(0, place);
                String behind = script.substring(place);
                scripts.add(before);
                scripts.add(before + behind.substring(Math.min(1, behind.length())));
                for (char sign = ' '; sign <= '~'; sign++) {
                    scripts.add(before + sign + behind);
                    scripts.add(before + sign + behind.substring(Math.min(1, behind.length())));
                }
            }
        }
        scripts.removeIf(script -> script.length() > 60);
        return scripts;
    }

    private static void promises50And51(String script) {
        ChordCanal canal = new ChordCanal();
        int error = Form.errorIn(script);
        String answer = Canals.run(canal, script);
        String position = View.numberOf(canal::errorPosition);
        if (error >= 0) {
            Check.same(script, "IllegalArgumentException at " + error, answer + " at " + position);
        } else {
            String commands = String.valueOf(script.split(";").length);
            boolean failed = answer.equals("IllegalStateException");
            Check.same(script, failed ? answer : commands, answer);
            Check.same(script + " has the form", "NoSuchElementException", position);
            Check.same(script + " failed", failed, Check.thrownBy(canal::failedCommand).equals("nothing"));
        }
    }
}
