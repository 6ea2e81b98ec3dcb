import java.util.Objects;

/** What the tests share: they count what is wrong, and the main method of a test ends with done(). */
final class Check {
    interface Call {
        void run();
    }

    /** Calls of a canal that is given. */
    interface Use {
        void of(ChordCanal canal);
    }

    /** A call of a canal with a number that is given. */
    interface NumberUse {
        void of(ChordCanal canal, int number);
    }

    private static int checks = 0;
    private static int wrong = 0;
    private static String test = "";

    private Check() {
    }

    /** What is wrong from now on is told with the name of this test. */
    static void start(String name) {
        test = name + ": ";
    }

    static void same(String what, Object due, Object got) {
        checks++;
        if (!Objects.equals(due, got)) {
            wrong++;
            if (wrong <= 50) {
                System.out.println(test + what + ": due is " + due + ", answered " + got);
            }
        }
    }

    /** The call throws exactly this exception; a brief look, as a canal has 512 calls: refuses() looks at all. */
    static void refused(String what, Class<?> due, ChordCanal canal, Call call) {
        String before = View.brief(canal);
        same(what + " throws", due.getSimpleName(), thrownBy(call));
        same(what + " changes nothing", before, View.brief(canal));
    }

    /** A canal that was set up so refuses the call, and is then in all like one that was set up so and not called. */
    static void refuses(String what, Class<?> due, Use setUp, Use call) {
        ChordCanal called = new ChordCanal();
        ChordCanal twin = new ChordCanal();
        setUp.of(called);
        setUp.of(twin);
        same(what + " throws", due.getSimpleName(), thrownBy(() -> call.of(called)));
        same(what + " changes nothing", View.ofAll(twin), View.ofAll(called));
    }

    /** The call is refused with each of the numbers. */
    static void refusesEach(Class<?> due, int[] numbers, Use setUp, NumberUse call) {
        for (int number : numbers) {
            refuses(String.valueOf(number), due, setUp, canal -> call.of(canal, number));
        }
    }

    static String thrownBy(Call call) {
        try {
            call.run();
        } catch (RuntimeException e) {
            return e.getClass().getSimpleName();
        }
        return "nothing";
    }

    static void done() {
        System.out.println(checks + " checks, " + wrong + " wrong");
        if (wrong > 0) {
            System.exit(1);
        }
    }
}
