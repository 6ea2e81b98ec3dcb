import java.util.ArrayDeque;
import java.util.ArrayList;
import java.util.Comparator;
import java.util.Deque;
import java.util.List;
import java.util.NoSuchElementException;
import java.util.Set;
import java.util.TreeSet;
import java.util.function.Supplier;
import java.util.regex.Matcher;
import java.util.regex.Pattern;

/** A second canal, written from the document in another way: sets, lists, copies, and a regular expression. */
final class Model {
    private static final String COMMAND = "(?:barge \\d{1,3} \\d[du]|tune \\d \\d \\d{1,3}|fix \\d \\d|demand \\d [Mmda]"
            + "|flow \\d|fill \\d \\d{1,3}|leave \\d{1,3}|hour(?: \\d{1,3})?)";
    private static final Pattern SCRIPT = Pattern.compile(COMMAND + "(?:;" + COMMAND + ")*");

    private record Barge(int id, int note, int draught, boolean down, int reach) {
        int gate() {
            return down ? reach : reach - 1;
        }

        int ahead() {
            return down ? reach + 1 : reach - 1;
        }
    }

    private static final class State {
        int time;
        int inflow = 2;
        int next;
        int flowed;
        int filled;
        int lost;
        int left;
        int[] water = {60, 60, 60, 60, 60, 60};
        char[] kinds = {'M', 'M', 'M', 'M', 'M'};
        int[][] notes = {{0, 4}, {0, 4}, {0, 4}, {0, 4}, {0, 4}};
        int[][] wears = new int[5][2];
        int[] passages = new int[5];
        List<Barge> barges = new ArrayList<>();

        State copy() {
            State copy = new State();
            copy.time = time;
            copy.inflow = inflow;
            copy.next = next;
            copy.flowed = flowed;
            copy.filled = filled;
            copy.lost = lost;
            copy.left = left;
            copy.water = water.clone();
            copy.kinds = kinds.clone();
            for (int gate = 0; gate < 5; gate++) {
                copy.notes[gate] = notes[gate].clone();
                copy.wears[gate] = wears[gate].clone();
            }
            copy.passages = passages.clone();
            copy.barges = new ArrayList<>(barges);
            return copy;
        }
    }

    private State now = new State();
    private State saved;
    private final Deque<State> undoable = new ArrayDeque<>();
    private String typed = "";
    private String output = "";
    private Integer error;
    private Integer failed;

    private static void check(boolean holds, Supplier<RuntimeException> otherwise) {
        if (!holds) {
            throw otherwise.get();
        }
    }

    private static boolean between(int number, int least, int most) {
        return least <= number && number <= most;
    }

    private void keep(State before) {
        undoable.push(before);
        if (undoable.size() > 8) {
            undoable.removeLast();
        }
    }

    private <T> T changed(Supplier<T> change) {
        State before = now.copy();
        T answer = change.get();
        keep(before);
        return answer;
    }

    private static void checkString(int gate, int string) {
        check(between(gate, 0, 4) && between(string, 0, 1), IndexOutOfBoundsException::new);
    }

    private static void checkGate(int gate) {
        check(between(gate, 0, 4), IndexOutOfBoundsException::new);
    }

    private static void checkReach(int reach) {
        check(between(reach, 0, 5), IndexOutOfBoundsException::new);
    }

    private Barge barge(int id) {
        return now.barges.stream().filter(b -> b.id == id).findFirst().orElseThrow(NoSuchElementException::new);
    }

    int addBarge(int note, int draught, boolean down) {
        return changed(() -> doAdd(note, draught, down));
    }

    private int doAdd(int note, int draught, boolean down) {
        check(between(note, 0, 11) && between(draught, 1, 9), IllegalArgumentException::new);
        check(now.barges.size() < 8, IllegalStateException::new);
        now.barges.add(new Barge(now.next, note, draught, down, down ? 0 : 5));
        return now.next++;
    }

    int tune(int gate, int string, int note) {
        return changed(() -> doTune(gate, string, note));
    }

    private int doTune(int gate, int string, int note) {
        checkString(gate, string);
        check(between(note, 0, 11), IllegalArgumentException::new);
        int previous = now.notes[gate][string];
        now.notes[gate][string] = note;
        return previous;
    }

    int replaceString(int gate, int string) {
        return changed(() -> doReplace(gate, string));
    }

    private int doReplace(int gate, int string) {
        checkString(gate, string);
        int previous = now.wears[gate][string];
        now.wears[gate][string] = 0;
        return previous;
    }

    char setDemand(int gate, char kind) {
        return changed(() -> doDemand(gate, kind));
    }

    private char doDemand(int gate, char kind) {
        checkGate(gate);
        check("Mmda".indexOf(kind) >= 0, IllegalArgumentException::new);
        char previous = now.kinds[gate];
        now.kinds[gate] = kind;
        return previous;
    }

    int setInflow(int units) {
        return changed(() -> doInflow(units));
    }

    private int doInflow(int units) {
        check(between(units, 0, 9), IllegalArgumentException::new);
        int previous = now.inflow;
        now.inflow = units;
        return previous;
    }

    int fill(int reach, int units) {
        return changed(() -> doFill(reach, units));
    }

    private int doFill(int reach, int units) {
        checkReach(reach);
        check(between(units, 1, 90), IllegalArgumentException::new);
        check(now.water[reach] + units <= 90, UnsupportedOperationException::new);
        now.filled += units;
        return now.water[reach] += units;
    }

    int removeBarge(int id) {
        return changed(() -> doRemove(id));
    }

    private int doRemove(int id) {
        now.barges.remove(barge(id));
        return now.barges.size();
    }

    int advance(int hours) {
        return changed(() -> doAdvance(hours));
    }

    private int doAdvance(int hours) {
        check(between(hours, 1, 100), IllegalArgumentException::new);
        int before = now.left;
        for (int hour = 0; hour < hours; hour++) {
            oneHour();
        }
        return now.left - before;
    }

    private void oneHour() {
        now.time++;
        now.flowed += now.inflow;
        now.water[0] += now.inflow;
        now.lost += Math.max(0, now.water[0] - 90);
        now.water[0] = Math.min(90, now.water[0]);
        Set<Integer> used = new TreeSet<>();
        for (Barge barge : new ArrayList<>(now.barges)) {
            if (passable(barge) && used.add(barge.gate())) {
                pass(barge);
            }
        }
    }

    private void pass(Barge barge) {
        int gate = barge.gate();
        for (int unit = 0; unit < 6 && now.water[gate] > 0; unit++) {
            now.water[gate]--;
            if (now.water[gate + 1] < 90) {
                now.water[gate + 1]++;
            } else {
                now.lost++;
            }
        }
        now.passages[gate]++;
        for (int string = 0; string < 2; string++) {
            if (now.wears[gate][string] < 20) {
                now.wears[gate][string]++;
            }
        }
        int reach = barge.ahead();
        int place = now.barges.indexOf(barge);
        if (reach == (barge.down ? 5 : 0)) {
            now.barges.remove(place);
            now.left++;
        } else {
            now.barges.set(place, new Barge(barge.id, barge.note, barge.draught, barge.down, reach));
        }
    }

    private boolean passable(Barge barge) {
        int reach = barge.ahead();
        long there = now.barges.stream().filter(b -> b.reach == reach).count();
        return opens(barge.gate(), barge.note) && (reach == 0 || reach == 5 || there < 3)
                && now.water[reach] >= 5 * barge.draught;
    }

    private boolean opens(int gate, int note) {
        Set<Integer> notes = new TreeSet<>(List.of(note));
        notes.add(soundOf(gate, 0));
        notes.add(soundOf(gate, 1));
        return rootOf(now.kinds[gate], notes) != null;
    }

    private int soundOf(int gate, int string) {
        return (now.notes[gate][string] + (now.wears[gate][string] < 10 ? 0 : 1)) % 12;
    }

    private static Integer rootOf(char kind, Set<Integer> notes) {
        List<Integer> form = switch (kind) {
            case 'M' -> List.of(0, 4, 7);
            case 'm' -> List.of(0, 3, 7);
            case 'd' -> List.of(0, 3, 6);
            default -> List.of(0, 4, 8);
        };
        for (int root : notes) {
            Set<Integer> chord = new TreeSet<>();
            form.forEach(step -> chord.add((step + root) % 12));
            if (chord.equals(notes)) {
                return root;
            }
        }
        return null;
    }

    private static Set<Integer> notesOf(int sum) {
        check(between(sum, 0, 4095), IllegalArgumentException::new);
        Set<Integer> notes = new TreeSet<>();
        for (int note = 0; note < 12; note++) {
            if ((sum & (1 << note)) != 0) {
                notes.add(note);
            }
        }
        return notes;
    }

    char chordKind(int sum) {
        Set<Integer> notes = notesOf(sum);
        for (char kind : "Mmda".toCharArray()) {
            if (rootOf(kind, notes) != null) {
                return kind;
            }
        }
        return '-';
    }

    int chordRoot(int sum) {
        char kind = chordKind(sum);
        check(kind != '-', NoSuchElementException::new);
        return rootOf(kind, notesOf(sum));
    }

    int sound(int gate, int string) {
        checkString(gate, string);
        return soundOf(gate, string);
    }

    private List<Integer> opening(int gate) {
        checkGate(gate);
        List<Integer> notes = new ArrayList<>();
        for (int note = 0; note < 12; note++) {
            if (opens(gate, note)) {
                notes.add(note);
            }
        }
        return notes;
    }

    int openingNotes(int gate) {
        return opening(gate).size();
    }

    int lowestOpeningNote(int gate) {
        return opening(gate).stream().findFirst().orElseThrow(NoSuchElementException::new);
    }

    boolean opensTo(int gate, int note) {
        checkGate(gate);
        check(between(note, 0, 11), IllegalArgumentException::new);
        return opens(gate, note);
    }

    int note(int gate, int string) {
        checkString(gate, string);
        return now.notes[gate][string];
    }

    int wear(int gate, int string) {
        checkString(gate, string);
        return now.wears[gate][string];
    }

    char demand(int gate) {
        checkGate(gate);
        return now.kinds[gate];
    }

    int passages(int gate) {
        checkGate(gate);
        return now.passages[gate];
    }

    int gateByTraffic(int rank) {
        check(between(rank, 0, 4), NoSuchElementException::new);
        List<Integer> gates = new ArrayList<>(List.of(0, 1, 2, 3, 4));
        Comparator<Integer> byPassages = Comparator.comparing(gate -> -now.passages[gate]);
        gates.sort(byPassages.thenComparing(gate -> -Math.max(now.wears[gate][0], now.wears[gate][1])));
        return gates.get(rank);
    }

    int water(int reach) {
        checkReach(reach);
        return now.water[reach];
    }

    private List<Integer> idsIn(int reach) {
        checkReach(reach);
        return now.barges.stream().filter(b -> b.reach == reach).map(Barge::id).toList();
    }

    int bargesIn(int reach) {
        return idsIn(reach).size();
    }

    int bargeIn(int reach, int position) {
        List<Integer> ids = idsIn(reach);
        check(between(position, 0, ids.size() - 1), NoSuchElementException::new);
        return ids.get(position);
    }

    int bargeCount() {
        return now.barges.size();
    }

    boolean exists(int id) {
        return now.barges.stream().anyMatch(b -> b.id == id);
    }

    int noteOf(int id) {
        return barge(id).note;
    }

    int draughtOf(int id) {
        return barge(id).draught;
    }

    boolean isGoingDown(int id) {
        return barge(id).down;
    }

    int reachOf(int id) {
        return barge(id).reach;
    }

    boolean canPass(int id) {
        return passable(barge(id));
    }

    int gatesLeft(int id) {
        Barge barge = barge(id);
        return barge.down ? 5 - barge.reach : barge.reach;
    }

    private Integer hoursUntil(Supplier<Boolean> event) {
        State before = now;
        now = before.copy();
        try {
            for (int hours = 0; hours <= 200; hours++) {
                if (event.get()) {
                    return hours;
                }
                oneHour();
            }
            return null;
        } finally {
            now = before;
        }
    }

    int hoursUntilLeaving(int id) {
        barge(id);
        Integer hours = hoursUntil(() -> !exists(id));
        check(hours != null, IllegalStateException::new);
        return hours;
    }

    int hoursUntilDetuned(int gate, int string) {
        checkString(gate, string);
        Integer hours = hoursUntil(() -> now.wears[gate][string] >= 10);
        check(hours != null, NoSuchElementException::new);
        return hours;
    }

    int time() {
        return now.time;
    }

    int inflow() {
        return now.inflow;
    }

    int totalWater() {
        return 360 + now.flowed + now.filled - now.lost;
    }

    int inflowTotal() {
        return now.flowed;
    }

    int filledTotal() {
        return now.filled;
    }

    int lostTotal() {
        return now.lost;
    }

    int leftTotal() {
        return now.left;
    }

    double meanWear() {
        double sum = 0;
        for (int[] wears : now.wears) {
            sum += wears[0] + wears[1];
        }
        return sum / 10;
    }

    float passageShare(int gate) {
        checkGate(gate);
        float all = 0;
        for (int passages : now.passages) {
            all += passages;
        }
        check(all > 0, ArithmeticException::new);
        return now.passages[gate] / all;
    }

    int renderGate(int gate) {
        checkGate(gate);
        output = String.format("%d:%c%d~%d,%d~%d", gate, now.kinds[gate], now.notes[gate][0], now.wears[gate][0],
                now.notes[gate][1], now.wears[gate][1]);
        return output.length();
    }

    int renderCanal() {
        List<String> reaches = new ArrayList<>();
        for (int reach = 0; reach < 6; reach++) {
            reaches.add(now.water[reach] + "*".repeat(bargesIn(reach)));
        }
        output = String.join("|", reaches);
        return output.length();
    }

    char outputAt(int index) {
        check(between(index, 0, output.length() - 1), IndexOutOfBoundsException::new);
        return output.charAt(index);
    }

    int type(char character) {
        check(between(character, 32, 126), IllegalArgumentException::new);
        check(typed.length() < 60, IllegalStateException::new);
        typed += character;
        return typed.length();
    }

    int runScript() {
        String script = typed;
        typed = "";
        if (!SCRIPT.matcher(script).matches()) {
            error = 0;
            while (error < script.length() && canBegin(script.substring(0, error + 1))) {
                error++;
            }
            throw new IllegalArgumentException();
        }
        State before = now;
        now = before.copy();
        String[] commands = script.split(";");
        for (int index = 0; index < commands.length; index++) {
            try {
                perform(commands[index].replaceAll("([du])$", " $1").split(" +"));
            } catch (RuntimeException e) {
                failed = index;
                now = before;
                throw new IllegalStateException();
            }
        }
        keep(before);
        return commands.length;
    }

    private static boolean canBegin(String text) {
        Matcher matcher = SCRIPT.matcher(text);
        return matcher.matches() || matcher.hitEnd();
    }

    private void perform(String[] words) {
        switch (words[0]) {
            case "barge" -> doAdd(number(words[1]), number(words[2]), words[3].equals("d"));
            case "tune" -> doTune(number(words[1]), number(words[2]), number(words[3]));
            case "fix" -> doReplace(number(words[1]), number(words[2]));
            case "demand" -> doDemand(number(words[1]), words[2].charAt(0));
            case "flow" -> doInflow(number(words[1]));
            case "fill" -> doFill(number(words[1]), number(words[2]));
            case "leave" -> doRemove(number(words[1]));
            default -> doAdvance(words.length == 1 ? 1 : number(words[1]));
        }
    }

    private static int number(String digits) {
        return Integer.parseInt(digits);
    }

    int errorPosition() {
        check(error != null, NoSuchElementException::new);
        return error;
    }

    int failedCommand() {
        check(failed != null, NoSuchElementException::new);
        return failed;
    }

    int undo() {
        now = undoable.pop();
        return undoable.size();
    }

    int save() {
        saved = now.copy();
        return now.barges.size();
    }

    int restore() {
        check(saved != null, IllegalStateException::new);
        now = saved.copy();
        undoable.clear();
        return now.barges.size();
    }
}
