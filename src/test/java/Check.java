import java.util.Objects;

/** What the tests share: they count what is wrong, and the main method of a test ends with done(). */
final class Check {
    interface Call {
        void run();
    }

    private static int checks = 0;
    private static int wrong = 0;

    private Check() {
    }

    static void same(String what, Object due, Object got) {
        checks++;
        if (!Objects.equals(due, got)) {
            wrong++;
            if (wrong <= 50) {
                System.out.println(what + ": due is " + due + ", answered " + got);
            }
        }
    }

    /** The call throws exactly this exception, and the canal shows the same state afterwards. */
    static void refused(String what, Class<?> due, ChordCanal canal, Call call) {
        String before = View.of(canal);
        same(what + " throws", due.getSimpleName(), thrownBy(call));
        same(what + " changes nothing", before, View.of(canal));
    }

    static String thrownBy(Call call) {
        try {
            call.run();
        } catch (RuntimeException e) {
            return e.getClass().getSimpleName();
        }
        return "nothing";
    }

    static void done() {
        System.out.println(checks + " checks, " + wrong + " wrong");
        if (wrong > 0) {
            System.exit(1);
        }
    }
}
