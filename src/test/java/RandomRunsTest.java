import java.lang.reflect.InvocationTargetException;
import java.lang.reflect.Method;
import java.lang.reflect.Modifier;
import java.util.ArrayList;
import java.util.Arrays;
import java.util.Comparator;
import java.util.List;
import java.util.Map;
import java.util.Random;
import java.util.Set;
import java.util.TreeMap;

/** Runs of 512 calls with arguments near and beyond the limits, answered by the class and by the model. */
public final class RandomRunsTest {
    private static final int RUNS = 1500;
    private static final int CALLS = 512;
    private static final String[] SCRIPTS = {"barge %d %du", "barge %d %dd", "tune %d %d %d", "fix %d %d", "demand %d M",
        "demand %d m", "demand %d a", "demand %d d", "flow %d", "fill %d %d", "leave %d", "hour", "hour %d"};

    private static final Set<String> STRING_CALLS = Set.of("note", "wear", "sound", "tune", "replaceString",
            "hoursUntilDetuned");

    private final Random random;
    private final ChordCanal canal = new ChordCanal();
    private final Model model = new Model();
    private static final Map<String, Integer> ANSWERS = new TreeMap<>();

    private RandomRunsTest(long seed) {
        random = new Random(seed);
    }

    public static void main(String[] args) throws ReflectiveOperationException {
        List<Method> methods = new ArrayList<>();
        for (Method method : ChordCanal.class.getDeclaredMethods()) {
            if (Modifier.isPublic(method.getModifiers())) {
                methods.add(method);
            }
        }
        methods.sort(Comparator.comparing(Method::getName));
        for (int run = 0; run < RUNS; run++) {
            new RandomRunsTest(run).run(run, methods);
        }
        if (args.length > 0) {
            ANSWERS.forEach((answer, count) -> System.out.println(count + "\t" + answer));
        }
        Check.done();
    }

    private void run(int run, List<Method> methods) throws ReflectiveOperationException {
        int calls = 0;
        if (run % 2 == 0) {
            calls += tuneAll();
        }
        while (calls < CALLS) {
            int kind = random.nextInt(20);
            if (kind == 0 && calls <= CALLS - 4) {
                calls += script(run, CALLS - calls - 3);
            } else if (kind < 7) {
                call(run, traffic());
                calls++;
            } else {
                Method method = methods.get(random.nextInt(methods.size()));
                if (!method.getName().equals("restore") || random.nextInt(4) == 0) {
                    compare(run, method, arguments(method));
                    calls++;
                }
            }
        }
    }

    /** Gates that open to the same notes, so that barges get far; answers the number of calls. */
    private int tuneAll() {
        int shift = random.nextInt(12);
        for (int gate = 0; gate < 5; gate++) {
            for (int string = 0; string < 2; string++) {
                int note = (shift + 4 * string) % 12;
                Check.same("tune", model.tune(gate, string, note), canal.tune(gate, string, note));
            }
        }
        return 10;
    }

    private Object[] traffic() {
        int kind = random.nextInt(4);
        if (kind == 0) {
            return new Object[] {"advance", random.nextInt(3) + 1};
        }
        if (kind == 1) {
            return new Object[] {"replaceString", random.nextInt(5), random.nextInt(2)};
        }
        int gate = random.nextInt(5);
        int note = model.openingNotes(gate) == 0 ? random.nextInt(12) : model.lowestOpeningNote(gate);
        return new Object[] {"addBarge", note, random.nextInt(9) + 1, random.nextBoolean()};
    }

    private void call(int run, Object[] call) throws ReflectiveOperationException {
        for (Method method : ChordCanal.class.getDeclaredMethods()) {
            if (method.getName().equals(call[0])) {
                compare(run, method, Arrays.copyOfRange(call, 1, call.length));
            }
        }
    }

    private Object[] arguments(Method method) {
        Object[] arguments = new Object[method.getParameterCount()];
        for (int index = 0; index < arguments.length; index++) {
            Class<?> type = method.getParameterTypes()[index];
            if (type == boolean.class) {
                arguments[index] = random.nextBoolean();
            } else if (type == char.class) {
                arguments[index] = random.nextInt(9) == 0 ? (char) random.nextInt(300) : "Mmda".charAt(random.nextInt(4));
            } else {
                arguments[index] = index == 1 && STRING_CALLS.contains(method.getName()) && random.nextInt(12) > 0
                        ? random.nextInt(2) : number(method.getName());
            }
        }
        return arguments;
    }

    private int number(String name) {
        int kind = random.nextInt(60);
        if (kind == 0) {
            return random.nextInt();
        }
        if (kind == 1) {
            return -1;
        }
        if (name.startsWith("chord")) {
            return random.nextInt(4100);
        }
        if (name.equals("outputAt")) {
            return random.nextInt(28);
        }
        if (name.equals("fill") && random.nextBoolean()) {
            return random.nextInt(95);
        }
        if (name.endsWith("Of") || name.endsWith("Barge") || name.equals("exists") || name.equals("canPass")
                || name.equals("gatesLeft") || name.equals("isGoingDown") || name.equals("hoursUntilLeaving")) {
            return someBarge();
        }
        return random.nextInt(random.nextInt(3) == 0 ? 14 : 6);
    }

    private int someBarge() {
        int reach = random.nextInt(6);
        int count = model.bargesIn(reach);
        return count == 0 || random.nextInt(8) == 0 ? random.nextInt(30) : model.bargeIn(reach, random.nextInt(count));
    }

    /** Types a script of at most so many characters and runs it; answers the number of calls. */
    private int script(int run, int most) throws ReflectiveOperationException {
        StringBuilder text = new StringBuilder();
        int commands = random.nextInt(5) + 1;
        for (int index = 0; index < commands; index++) {
            String form = SCRIPTS[random.nextInt(SCRIPTS.length)];
            text.append(index == 0 ? "" : ";");
            boolean far = random.nextInt(12) == 0;
            text.append(String.format(form, digits(far), digits(far), digits(far)));
        }
        if (random.nextInt(3) == 0) {
            int place = random.nextInt(text.length());
            text.setCharAt(place, " ;d0hfM~u9".charAt(random.nextInt(10)));
        }
        if (random.nextInt(5) == 0) {
            text.setLength(random.nextInt(text.length()));
        }
        text.setLength(Math.min(text.length(), most));
        Method type = ChordCanal.class.getMethod("type", char.class);
        for (char character : text.toString().toCharArray()) {
            compare(run, type, new Object[] {character});
        }
        compare(run, ChordCanal.class.getMethod("runScript"), new Object[0]);
        compare(run, ChordCanal.class.getMethod("errorPosition"), new Object[0]);
        compare(run, ChordCanal.class.getMethod("failedCommand"), new Object[0]);
        return text.length() + 3;
    }

    private int digits(boolean far) {
        return far ? random.nextInt(1500) : random.nextInt(5);
    }

    private void compare(int run, Method method, Object[] arguments) throws ReflectiveOperationException {
        String got = answer(method, canal, arguments);
        String name = method.getName();
        String due;
        if (name.equals("isConsistent")) {
            due = "true";
        } else {
            String same = name.equals("chordKindBySteps") ? "chordKind"
                    : name.equals("totalWaterByAccounts") ? "totalWater" : name;
            due = answer(Model.class.getDeclaredMethod(same, method.getParameterTypes()), model, arguments);
        }
        Check.same("run " + run + ": " + name + Arrays.toString(arguments), due, got);
        ANSWERS.merge(name + (due.startsWith("throws") ? " " + due : ""), 1, Integer::sum);
    }

    private static String answer(Method method, Object target, Object[] arguments) throws ReflectiveOperationException {
        try {
            return String.valueOf(method.invoke(target, arguments));
        } catch (InvocationTargetException e) {
            return "throws " + e.getCause().getClass().getSimpleName();
        }
    }
}
