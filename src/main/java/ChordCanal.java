import java.util.NoSuchElementException;

/** A simulator of a canal whose gates open to chords. */
public final class ChordCanal {
    private static final int NOTES = 12;
    private static final int ALL_NOTES = 4095;
    private static final int GATES = 5;
    private static final int STRINGS = 2;
    private static final int REACHES = 6;
    private static final int NONE = -1;
    private static final int LONGEST_PREDICTION = 200;

    private final Canal canal;
    /** Scripts and predictions happen here, so that the canal itself stays as it is. */
    private final Canal trial;
    private final Canal snapshot;
    private boolean hasSnapshot;
    private final History history;
    private final Script script;
    private final StringBuilder output;
    private int latestError;
    private int latestFailure;

    public ChordCanal() {
        canal = new Canal();
        trial = new Canal();
        snapshot = new Canal();
        hasSnapshot = false;
        history = new History();
        script = new Script();
        output = new StringBuilder();
        latestError = NONE;
        latestFailure = NONE;
    }

    // Changes

    public int addBarge(int note, int draught, boolean isGoingDown)
            throws IllegalArgumentException, IllegalStateException {
        return change(Script.BARGE, note, draught, isGoingDown ? 'd' : 'u');
    }

    public int tune(int gate, int string, int note) throws IndexOutOfBoundsException, IllegalArgumentException {
        return change(Script.TUNE, gate, string, note);
    }

    public int replaceString(int gate, int string) throws IndexOutOfBoundsException {
        return change(Script.FIX, gate, string, 0);
    }

    public char setDemand(int gate, char kind) throws IndexOutOfBoundsException, IllegalArgumentException {
        return (char) change(Script.DEMAND, gate, kind, 0);
    }

    public int setInflow(int units) throws IllegalArgumentException {
        return change(Script.FLOW, units, 0, 0);
    }

    public int fill(int reach, int units)
            throws IndexOutOfBoundsException, IllegalArgumentException, UnsupportedOperationException {
        return change(Script.FILL, reach, units, 0);
    }

    public int removeBarge(int barge) throws NoSuchElementException {
        return change(Script.LEAVE, barge, 0, 0);
    }

    public int advance(int hours) throws IllegalArgumentException {
        return change(Script.HOUR, hours, 0, 0);
    }

    // Chords

    public char chordKind(int notes) throws IllegalArgumentException {
        requireNotes(notes);
        return Chords.kindByComparing(notes);
    }

    public char chordKindBySteps(int notes) throws IllegalArgumentException {
        requireNotes(notes);
        return Chords.kindByStepping(notes);
    }

    public int chordRoot(int notes) throws IllegalArgumentException, NoSuchElementException {
        requireNotes(notes);
        char kind = Chords.kindByComparing(notes);
        if (kind == Chords.NO_KIND) {
            throw new NoSuchElementException("no chord");
        }
        return Chords.rootAs(Chords.patternOf(kind), notes);
    }

    public int sound(int gate, int string) throws IndexOutOfBoundsException {
        requireString(gate, string);
        return canal.gates.soundOf(gate, string);
    }

    public int openingNotes(int gate) throws IndexOutOfBoundsException {
        requireGate(gate);
        int count = 0;
        for (int note = 0; note < NOTES; note++) {
            if (canal.gates.opens(gate, note)) {
                count++;
            }
        }
        return count;
    }

    public int lowestOpeningNote(int gate) throws IndexOutOfBoundsException, NoSuchElementException {
        requireGate(gate);
        for (int note = 0; note < NOTES; note++) {
            if (canal.gates.opens(gate, note)) {
                return note;
            }
        }
        throw new NoSuchElementException("no note opens the gate");
    }

    public boolean opensTo(int gate, int note) throws IndexOutOfBoundsException, IllegalArgumentException {
        requireGate(gate);
        if (!Chords.isNote(note)) {
            throw new IllegalArgumentException("no such note");
        }
        return canal.gates.opens(gate, note);
    }

    // Gates and reaches

    public int note(int gate, int string) throws IndexOutOfBoundsException {
        requireString(gate, string);
        return canal.gates.tuningOf(gate, string);
    }

    public int wear(int gate, int string) throws IndexOutOfBoundsException {
        requireString(gate, string);
        return canal.gates.wearOf(gate, string);
    }

    public char demand(int gate) throws IndexOutOfBoundsException {
        requireGate(gate);
        return canal.gates.kindOf(gate);
    }

    public int passages(int gate) throws IndexOutOfBoundsException {
        requireGate(gate);
        return canal.gates.passagesOf(gate);
    }

    public int gateByTraffic(int rank) throws NoSuchElementException {
        int gate = canal.gates.atRank(rank);
        if (gate == NONE) {
            throw new NoSuchElementException("no such rank");
        }
        return gate;
    }

    public int water(int reach) throws IndexOutOfBoundsException {
        requireReach(reach);
        return canal.reaches.waterIn(reach);
    }

    public int bargesIn(int reach) throws IndexOutOfBoundsException {
        requireReach(reach);
        return canal.fleet.countIn(reach);
    }

    public int bargeIn(int reach, int position) throws IndexOutOfBoundsException, NoSuchElementException {
        requireReach(reach);
        int barge = canal.fleet.idIn(reach, position);
        if (barge == NONE) {
            throw new NoSuchElementException("no such position");
        }
        return barge;
    }

    // Barges

    public int bargeCount() {
        return canal.fleet.count;
    }

    public boolean exists(int barge) {
        return canal.fleet.indexOf(barge) != NONE;
    }

    public int noteOf(int barge) throws NoSuchElementException {
        return canal.fleet.noteAt(requireBarge(barge));
    }

    public int draughtOf(int barge) throws NoSuchElementException {
        return canal.fleet.draughtAt(requireBarge(barge));
    }

    public boolean isGoingDown(int barge) throws NoSuchElementException {
        return canal.fleet.goesDown(requireBarge(barge));
    }

    public int reachOf(int barge) throws NoSuchElementException {
        return canal.fleet.reachAt(requireBarge(barge));
    }

    public boolean canPass(int barge) throws NoSuchElementException {
        return canal.mayPass(requireBarge(barge));
    }

    public int gatesLeft(int barge) throws NoSuchElementException {
        return canal.fleet.gatesAhead(requireBarge(barge));
    }

    public int hoursUntilLeaving(int barge) throws NoSuchElementException, IllegalStateException {
        requireBarge(barge);
        trial.become(canal);
        for (int hours = 1; hours <= LONGEST_PREDICTION; hours++) {
            trial.passHours(1);
            if (trial.fleet.indexOf(barge) == NONE) {
                return hours;
            }
        }
        throw new IllegalStateException("the barge does not leave soon");
    }

    public int hoursUntilDetuned(int gate, int string) throws IndexOutOfBoundsException, NoSuchElementException {
        requireString(gate, string);
        trial.become(canal);
        for (int hours = 0; hours <= LONGEST_PREDICTION; hours++) {
            if (trial.gates.isDetuned(gate, string)) {
                return hours;
            }
            trial.passHours(1);
        }
        throw new NoSuchElementException("the string is not detuned soon");
    }

    // Totals and checks

    public int time() {
        return canal.time;
    }

    public int inflow() {
        return canal.inflow;
    }

    public int totalWater() {
        return canal.reaches.sum();
    }

    public int totalWaterByAccounts() {
        return canal.reaches.sumByAccounts();
    }

    public int inflowTotal() {
        return canal.reaches.flowedIn;
    }

    public int filledTotal() {
        return canal.reaches.filledIn;
    }

    public int lostTotal() {
        return canal.reaches.lost;
    }

    public int leftTotal() {
        return canal.left;
    }

    public double meanWear() {
        return (double) canal.gates.wearOfAll() / (double) (GATES * STRINGS);
    }

    public float passageShare(int gate) throws IndexOutOfBoundsException, ArithmeticException {
        requireGate(gate);
        int all = canal.gates.passagesOfAll();
        if (all == 0) {
            throw new ArithmeticException("no passages");
        }
        return (float) canal.gates.passagesOf(gate) / (float) all;
    }

    public boolean isConsistent() {
        return canal.gates.recognitionsAgree()
                && canal.reaches.sum() == canal.reaches.sumByAccounts()
                && canal.reaches.areWithinLimit()
                && canal.fleet.isWithinLimits();
    }

    // Output and scripts

    public int renderGate(int gate) throws IndexOutOfBoundsException {
        requireGate(gate);
        output.setLength(0);
        output.append(gate).append(':').append(canal.gates.kindOf(gate));
        for (int string = 0; string < STRINGS; string++) {
            if (string > 0) {
                output.append(',');
            }
            output.append(canal.gates.tuningOf(gate, string)).append('~').append(canal.gates.wearOf(gate, string));
        }
        return output.length();
    }

    public int renderCanal() {
        output.setLength(0);
        for (int reach = 0; reach < REACHES; reach++) {
            if (reach > 0) {
                output.append('|');
            }
            output.append(canal.reaches.waterIn(reach));
            int barges = canal.fleet.countIn(reach);
            for (int star = 0; star < barges; star++) {
                output.append('*');
            }
        }
        return output.length();
    }

    public char outputAt(int index) throws IndexOutOfBoundsException {
        if (index < 0 || index >= output.length()) {
            throw new IndexOutOfBoundsException("no such index");
        }
        return output.charAt(index);
    }

    public int type(char character) throws IllegalArgumentException, IllegalStateException {
        if (character < 32 || character > 126) {
            throw new IllegalArgumentException("no such character");
        }
        if (script.isFull()) {
            throw new IllegalStateException("the script buffer is full");
        }
        return script.append(character);
    }

    public int runScript() throws IllegalArgumentException, IllegalStateException {
        int error = script.read();
        script.clear();
        if (error != NONE) {
            latestError = error;
            throw new IllegalArgumentException("not a script");
        }
        trial.become(canal);
        int failure = script.performOn(trial);
        if (failure != NONE) {
            latestFailure = failure;
            throw new IllegalStateException("a command failed");
        }
        history.remember(canal);
        canal.become(trial);
        return script.count;
    }

    public int errorPosition() throws NoSuchElementException {
        if (latestError == NONE) {
            throw new NoSuchElementException("no script without the form");
        }
        return latestError;
    }

    public int failedCommand() throws NoSuchElementException {
        if (latestFailure == NONE) {
            throw new NoSuchElementException("no script with a failed command");
        }
        return latestFailure;
    }

    public int undo() throws NoSuchElementException {
        if (history.count == 0) {
            throw new NoSuchElementException("nothing to undo");
        }
        history.returnTo(canal);
        return history.count;
    }

    public int save() {
        snapshot.become(canal);
        hasSnapshot = true;
        return canal.fleet.count;
    }

    public int restore() throws IllegalStateException {
        if (!hasSnapshot) {
            throw new IllegalStateException("no snapshot");
        }
        canal.become(snapshot);
        history.forget();
        return canal.fleet.count;
    }

    // What the calls share

    private int change(int command, int first, int second, int third) {
        refuse(canal.faultOf(command, first, second, third));
        history.remember(canal);
        return canal.perform(command, first, second, third);
    }

    private static void refuse(Fault fault) {
        if (fault == Fault.NO_SUCH_PLACE) {
            throw new IndexOutOfBoundsException("no such gate, string or reach");
        }
        if (fault == Fault.BAD_ARGUMENT) {
            throw new IllegalArgumentException("not between the limits");
        }
        if (fault == Fault.FULL_CANAL) {
            throw new IllegalStateException("too many barges");
        }
        if (fault == Fault.FULL_REACH) {
            throw new UnsupportedOperationException("too much water");
        }
        if (fault == Fault.NO_SUCH_BARGE) {
            throw new NoSuchElementException("no such barge");
        }
    }

    private static void requireNotes(int notes) {
        if (notes < 0 || notes > ALL_NOTES) {
            throw new IllegalArgumentException("no sum of notes");
        }
    }

    private static void requireGate(int gate) {
        if (!Gates.isGate(gate)) {
            throw new IndexOutOfBoundsException("no such gate");
        }
    }

    private static void requireString(int gate, int string) {
        if (!Gates.isString(gate, string)) {
            throw new IndexOutOfBoundsException("no such string");
        }
    }

    private static void requireReach(int reach) {
        if (!Reaches.isReach(reach)) {
            throw new IndexOutOfBoundsException("no such reach");
        }
    }

    private int requireBarge(int barge) {
        int index = canal.fleet.indexOf(barge);
        if (index == NONE) {
            throw new NoSuchElementException("no such barge");
        }
        return index;
    }

    private static int at(int[] row, int index) {
        return index >= 0 && index < row.length ? row[index] : 0;
    }

    private static void copy(int[] from, int[] to) {
        System.arraycopy(from, 0, to, 0, Math.min(from.length, to.length));
    }

    /** Why a change is refused. */
    private enum Fault {
        NOTHING, NO_SUCH_PLACE, BAD_ARGUMENT, FULL_CANAL, FULL_REACH, NO_SUCH_BARGE
    }

    /** Both ways to recognize chords. A set of notes is a sum of 2 to the power of each note. */
    private static final class Chords {
        private static final char NO_KIND = '-';

        static int setOf(int first, int second, int third) {
            return 1 << first | 1 << second | 1 << third;
        }

        static boolean isNote(int note) {
            return note >= 0 && note < NOTES;
        }

        static boolean isKind(int kind) {
            return patternOf(kind) != 0;
        }

        /** The notes of the chord of a kind that is not transposed; none if there is no such kind. */
        static int patternOf(int kind) {
            switch (kind) {
                case 'M':
                    return 1 | 1 << 4 | 1 << 7;
                case 'm':
                    return 1 | 1 << 3 | 1 << 7;
                case 'd':
                    return 1 | 1 << 3 | 1 << 6;
                case 'a':
                    return 1 | 1 << 4 | 1 << 8;
                default:
                    return 0;
            }
        }

        /**
         * By how much the pattern of a kind must be transposed to be the notes, or NONE. For an augmented chord
         * three numbers would do; the least of them, which is found first, is its lowest note.
         */
        static int rootAs(int pattern, int notes) {
            for (int root = 0; root < NOTES; root++) {
                int transposed = (pattern << root | pattern >> NOTES - root) & ALL_NOTES;
                if (transposed == notes) {
                    return root;
                }
            }
            return NONE;
        }

        static char kindByComparing(int notes) {
            if (rootAs(patternOf('M'), notes) != NONE) {
                return 'M';
            }
            if (rootAs(patternOf('m'), notes) != NONE) {
                return 'm';
            }
            if (rootAs(patternOf('d'), notes) != NONE) {
                return 'd';
            }
            return rootAs(patternOf('a'), notes) != NONE ? 'a' : NO_KIND;
        }

        static char kindByStepping(int notes) {
            switch (stepsOf(notes)) {
                case 0x435:
                case 0x354:
                case 0x543:
                    return 'M';
                case 0x345:
                case 0x453:
                case 0x534:
                    return 'm';
                case 0x336:
                case 0x363:
                case 0x633:
                    return 'd';
                case 0x444:
                    return 'a';
                default:
                    return NO_KIND;
            }
        }

        /**
         * The steps from the lowest note around the circle, a hexadecimal digit each. No digit is 0, so that
         * another number of notes than three never looks like three steps, even where digits are shifted out.
         */
        private static int stepsOf(int notes) {
            int steps = 0;
            int lowest = 0;
            int previous = NONE;
            for (int note = 0; note < NOTES; note++) {
                if ((notes >> note & 1) == 1) {
                    if (previous == NONE) {
                        lowest = note;
                    } else {
                        steps = steps << 4 | note - previous;
                    }
                    previous = note;
                }
            }
            return previous == NONE ? 0 : steps << 4 | lowest + NOTES - previous;
        }
    }

    /** The gates with their strings. */
    private static final class Gates {
        private static final int MOST_WEAR = 20;
        private static final int DETUNING_WEAR = 10;

        private final char[] kinds = new char[GATES];
        private final int[] passed = new int[GATES];
        /** The strings of gate 0, then those of gate 1, and so on. */
        private final int[] tunings = new int[GATES * STRINGS];
        private final int[] wears = new int[GATES * STRINGS];

        Gates() {
            for (int gate = 0; gate < kinds.length; gate++) {
                kinds[gate] = 'M';
            }
            for (int place = 1; place < tunings.length; place += STRINGS) {
                tunings[place] = 4;
            }
        }

        void become(Gates other) {
            System.arraycopy(other.kinds, 0, kinds, 0, Math.min(other.kinds.length, kinds.length));
            copy(other.passed, passed);
            copy(other.tunings, tunings);
            copy(other.wears, wears);
        }

        static boolean isGate(int gate) {
            return gate >= 0 && gate < GATES;
        }

        static boolean isString(int gate, int string) {
            return isGate(gate) && string >= 0 && string < STRINGS;
        }

        private static int placeOf(int gate, int string) {
            return gate * STRINGS + string;
        }

        int tuningOf(int gate, int string) {
            return at(tunings, placeOf(gate, string));
        }

        int wearOf(int gate, int string) {
            return at(wears, placeOf(gate, string));
        }

        char kindOf(int gate) {
            return gate >= 0 && gate < kinds.length ? kinds[gate] : Chords.NO_KIND;
        }

        int passagesOf(int gate) {
            return at(passed, gate);
        }

        boolean isDetuned(int gate, int string) {
            return wearOf(gate, string) >= DETUNING_WEAR;
        }

        int soundOf(int gate, int string) {
            int place = gate * STRINGS + string;
            if (place < 0 || place >= wears.length || place >= tunings.length) {
                return 0;
            }
            int note = tunings[place];
            if (wears[place] < DETUNING_WEAR) {
                return note;
            }
            return note == NOTES - 1 ? 0 : note + 1;
        }

        boolean opens(int gate, int note) {
            int notes = Chords.setOf(note, soundOf(gate, 0), soundOf(gate, 1));
            return Chords.rootAs(Chords.patternOf(kindOf(gate)), notes) != NONE;
        }

        boolean recognitionsAgree() {
            for (int gate = 0; gate < GATES; gate++) {
                for (int note = 0; note < NOTES; note++) {
                    int notes = Chords.setOf(note, soundOf(gate, 0), soundOf(gate, 1));
                    if (Chords.kindByComparing(notes) != Chords.kindByStepping(notes)) {
                        return false;
                    }
                }
            }
            return true;
        }

        int retune(int gate, int string, int note) {
            int previous = tuningOf(gate, string);
            if (isString(gate, string)) {
                tunings[placeOf(gate, string)] = note;
            }
            return previous;
        }

        int renew(int gate, int string) {
            int previous = wearOf(gate, string);
            if (isString(gate, string)) {
                wears[placeOf(gate, string)] = 0;
            }
            return previous;
        }

        int ask(int gate, int kind) {
            int previous = kindOf(gate);
            if (isGate(gate)) {
                kinds[gate] = (char) kind;
            }
            return previous;
        }

        void countPassage(int gate) {
            if (!isGate(gate)) {
                return;
            }
            passed[gate]++;
            for (int string = 0; string < STRINGS; string++) {
                wears[placeOf(gate, string)] = Math.min(wearOf(gate, string) + 1, MOST_WEAR);
            }
        }

        int wearOfAll() {
            int sum = 0;
            for (int wear : wears) {
                sum += wear;
            }
            return sum;
        }

        int passagesOfAll() {
            int sum = 0;
            for (int count : passed) {
                sum += count;
            }
            return sum;
        }

        /** The gate that has as many gates before it as the rank says, or NONE. */
        int atRank(int rank) {
            for (int gate = 0; gate < GATES; gate++) {
                int before = 0;
                for (int other = 0; other < GATES; other++) {
                    if (comesBefore(other, gate)) {
                        before++;
                    }
                }
                if (before == rank) {
                    return gate;
                }
            }
            return NONE;
        }

        private boolean comesBefore(int gate, int other) {
            int morePassages = passagesOf(gate) - passagesOf(other);
            if (morePassages != 0) {
                return morePassages > 0;
            }
            int moreWear = greaterWear(gate) - greaterWear(other);
            return moreWear != 0 ? moreWear > 0 : gate < other;
        }

        private int greaterWear(int gate) {
            return Math.max(wearOf(gate, 0), wearOf(gate, 1));
        }
    }

    /** The water in the reaches and the accounts of it. */
    private static final class Reaches {
        private static final int MOST_WATER = 90;
        private static final int FIRST_WATER = 60;
        private static final int PASSAGE_WATER = 6;

        private final int[] water = new int[REACHES];
        private int flowedIn;
        private int filledIn;
        private int lost;

        Reaches() {
            for (int reach = 0; reach < water.length; reach++) {
                water[reach] = FIRST_WATER;
            }
        }

        void become(Reaches other) {
            copy(other.water, water);
            flowedIn = other.flowedIn;
            filledIn = other.filledIn;
            lost = other.lost;
        }

        static boolean isReach(int reach) {
            return reach >= 0 && reach < REACHES;
        }

        int waterIn(int reach) {
            return at(water, reach);
        }

        /** Only for as many units as the reach can hold. */
        int fillIn(int reach, int units) {
            filledIn += units;
            pour(reach, units);
            return waterIn(reach);
        }

        void flowIn(int units) {
            flowedIn += units;
            pour(0, units);
        }

        void flowThrough(int gate) {
            if (!Gates.isGate(gate)) {
                return;
            }
            int units = Math.min(PASSAGE_WATER, water[gate]);
            water[gate] -= units;
            pour(gate + 1, units);
        }

        private void pour(int reach, int units) {
            if (!isReach(reach)) {
                return;
            }
            int held = Math.min(units, MOST_WATER - water[reach]);
            water[reach] += held;
            lost += units - held;
        }

        int sum() {
            int sum = 0;
            for (int units : water) {
                sum += units;
            }
            return sum;
        }

        int sumByAccounts() {
            return REACHES * FIRST_WATER + flowedIn + filledIn - lost;
        }

        boolean areWithinLimit() {
            for (int units : water) {
                if (units > MOST_WATER) {
                    return false;
                }
            }
            return true;
        }
    }

    /** The barges, in the order of their ids. */
    private static final class Fleet {
        private static final int MOST_BARGES = 8;
        private static final int MOST_IN_REACH = 3;
        private static final int MOST_DRAUGHT = 9;

        private final int[] ids = new int[MOST_BARGES];
        private final int[] notes = new int[MOST_BARGES];
        private final int[] draughts = new int[MOST_BARGES];
        private final int[] reaches = new int[MOST_BARGES];
        /** 1 for a barge that goes down, -1 for one that goes up. */
        private final int[] directions = new int[MOST_BARGES];
        private int count;
        private int nextId;

        void become(Fleet other) {
            copy(other.ids, ids);
            copy(other.notes, notes);
            copy(other.draughts, draughts);
            copy(other.reaches, reaches);
            copy(other.directions, directions);
            count = other.count;
            nextId = other.nextId;
        }

        static boolean isDraught(int draught) {
            return draught >= 1 && draught <= MOST_DRAUGHT;
        }

        boolean isFull() {
            return count >= MOST_BARGES;
        }

        int launch(int note, int draught, boolean down) {
            int id = nextId;
            if (count >= 0 && count < MOST_BARGES) {
                ids[count] = id;
                notes[count] = note;
                draughts[count] = draught;
                reaches[count] = down ? 0 : REACHES - 1;
                directions[count] = down ? 1 : -1;
                count++;
                nextId++;
            }
            return id;
        }

        /** Where a barge stands in the rows, or NONE. */
        int indexOf(int barge) {
            for (int index = 0; index < count; index++) {
                if (at(ids, index) == barge) {
                    return index;
                }
            }
            return NONE;
        }

        int noteAt(int index) {
            return at(notes, index);
        }

        int draughtAt(int index) {
            return at(draughts, index);
        }

        int reachAt(int index) {
            return at(reaches, index);
        }

        boolean goesDown(int index) {
            return at(directions, index) > 0;
        }

        int reachAhead(int index) {
            return at(reaches, index) + at(directions, index);
        }

        /** A gate has the number of the upper one of its two reaches. */
        int gateAhead(int index) {
            return at(reaches, index) + Math.min(at(directions, index), 0);
        }

        int gatesAhead(int index) {
            int reach = at(reaches, index);
            return at(directions, index) > 0 ? REACHES - 1 - reach : reach;
        }

        void moveAhead(int index) {
            if (index >= 0 && index < MOST_BARGES) {
                reaches[index] = reachAhead(index);
            }
        }

        int removeAt(int gone) {
            int kept = 0;
            for (int index = 0; index < count; index++) {
                if (index != gone) {
                    moveRow(index, kept);
                    kept++;
                }
            }
            count = kept;
            return kept;
        }

        int removeArrived() {
            int kept = 0;
            for (int index = 0; index < count; index++) {
                if (gatesAhead(index) > 0) {
                    moveRow(index, kept);
                    kept++;
                }
            }
            int removed = count - kept;
            count = kept;
            return removed;
        }

        private void moveRow(int from, int to) {
            if (to < 0 || to > from || from >= MOST_BARGES) {
                return;
            }
            ids[to] = ids[from];
            notes[to] = notes[from];
            draughts[to] = draughts[from];
            reaches[to] = reaches[from];
            directions[to] = directions[from];
        }

        int countIn(int reach) {
            int sum = 0;
            for (int index = 0; index < reaches.length; index++) {
                if (index < count && reaches[index] == reach) {
                    sum++;
                }
            }
            return sum;
        }

        int idIn(int reach, int position) {
            int before = 0;
            for (int index = 0; index < count; index++) {
                if (reachAt(index) == reach) {
                    if (before == position) {
                        return at(ids, index);
                    }
                    before++;
                }
            }
            return NONE;
        }

        boolean hasRoomIn(int reach) {
            return reach == 0 || reach == REACHES - 1 || countIn(reach) < MOST_IN_REACH;
        }

        boolean isWithinLimits() {
            for (int reach = 1; reach < REACHES - 1; reach++) {
                if (countIn(reach) > MOST_IN_REACH) {
                    return false;
                }
            }
            return true;
        }
    }

    /** All that undo and the snapshot cover. */
    private static final class Canal {
        private static final int FIRST_INFLOW = 2;
        private static final int MOST_INFLOW = 9;
        private static final int MOST_HOURS = 100;
        private static final int WATER_PER_DRAUGHT = 5;

        private final Gates gates = new Gates();
        private final Reaches reaches = new Reaches();
        private final Fleet fleet = new Fleet();
        private int time;
        private int inflow = FIRST_INFLOW;
        private int left;

        void become(Canal other) {
            gates.become(other.gates);
            reaches.become(other.reaches);
            fleet.become(other.fleet);
            time = other.time;
            inflow = other.inflow;
            left = other.left;
        }

        /** What the method for a command would throw an exception for. */
        Fault faultOf(int command, int first, int second, int third) {
            switch (command) {
                case Script.BARGE:
                    return faultOfBarge(first, second);
                case Script.TUNE:
                    return faultOfPlace(Gates.isString(first, second), Chords.isNote(third));
                case Script.FIX:
                    return faultOfPlace(Gates.isString(first, second), true);
                case Script.DEMAND:
                    return faultOfPlace(Gates.isGate(first), Chords.isKind(second));
                case Script.FLOW:
                    return faultOfNumber(first, 0, MOST_INFLOW);
                case Script.FILL:
                    return faultOfFilling(first, second);
                case Script.LEAVE:
                    return fleet.indexOf(first) == NONE ? Fault.NO_SUCH_BARGE : Fault.NOTHING;
                default:
                    return faultOfNumber(first, 1, MOST_HOURS);
            }
        }

        private Fault faultOfBarge(int note, int draught) {
            if (!Chords.isNote(note) || !Fleet.isDraught(draught)) {
                return Fault.BAD_ARGUMENT;
            }
            return fleet.isFull() ? Fault.FULL_CANAL : Fault.NOTHING;
        }

        private static Fault faultOfPlace(boolean isPlace, boolean isValue) {
            if (!isPlace) {
                return Fault.NO_SUCH_PLACE;
            }
            return isValue ? Fault.NOTHING : Fault.BAD_ARGUMENT;
        }

        private static Fault faultOfNumber(int number, int least, int most) {
            return number < least || number > most ? Fault.BAD_ARGUMENT : Fault.NOTHING;
        }

        private Fault faultOfFilling(int reach, int units) {
            if (!Reaches.isReach(reach)) {
                return Fault.NO_SUCH_PLACE;
            }
            if (units < 1 || units > Reaches.MOST_WATER) {
                return Fault.BAD_ARGUMENT;
            }
            return reaches.waterIn(reach) + units > Reaches.MOST_WATER ? Fault.FULL_REACH : Fault.NOTHING;
        }

        /** Does what a command without a fault asks for; answers what its method answers. */
        int perform(int command, int first, int second, int third) {
            switch (command) {
                case Script.BARGE:
                    return fleet.launch(first, second, third == 'd');
                case Script.TUNE:
                    return gates.retune(first, second, third);
                case Script.FIX:
                    return gates.renew(first, second);
                case Script.DEMAND:
                    return gates.ask(first, second);
                case Script.FLOW:
                    return changeInflow(first);
                case Script.FILL:
                    return reaches.fillIn(first, second);
                case Script.LEAVE:
                    return fleet.removeAt(fleet.indexOf(first));
                default:
                    return passHours(first);
            }
        }

        private int changeInflow(int units) {
            int previous = inflow;
            inflow = units;
            return previous;
        }

        int passHours(int hours) {
            int leaving = 0;
            for (int hour = 0; hour < hours; hour++) {
                time++;
                reaches.flowIn(inflow);
                int passedGates = 0;
                for (int index = 0; index < fleet.count; index++) {
                    int gate = fleet.gateAhead(index);
                    if ((passedGates >> gate & 1) == 0 && mayPass(index)) {
                        passedGates |= 1 << gate;
                        reaches.flowThrough(gate);
                        gates.countPassage(gate);
                        fleet.moveAhead(index);
                    }
                }
                leaving += fleet.removeArrived();
            }
            left += leaving;
            return leaving;
        }

        boolean mayPass(int index) {
            int reach = fleet.reachAhead(index);
            return reaches.waterIn(reach) >= WATER_PER_DRAUGHT * fleet.draughtAt(index)
                    && fleet.hasRoomIn(reach)
                    && gates.opens(fleet.gateAhead(index), fleet.noteAt(index));
        }
    }

    /** The canal as it was before each of the latest changes, the latest one first. */
    private static final class History {
        private static final int MOST_CHANGES = 8;

        private final Canal[] kept = new Canal[MOST_CHANGES];
        private int count;

        History() {
            for (int index = 0; index < kept.length; index++) {
                kept[index] = new Canal();
            }
        }

        void remember(Canal canal) {
            Canal oldest = kept[MOST_CHANGES - 1];
            for (int index = MOST_CHANGES - 1; index > 0; index--) {
                kept[index] = kept[index - 1];
            }
            kept[0] = oldest;
            if (oldest != null) {
                oldest.become(canal);
            }
            count = Math.min(count + 1, MOST_CHANGES);
        }

        /** Only if something is kept. */
        void returnTo(Canal canal) {
            Canal latest = kept[0];
            for (int index = 0; index < MOST_CHANGES - 1; index++) {
                kept[index] = kept[index + 1];
            }
            kept[MOST_CHANGES - 1] = latest;
            if (latest != null) {
                canal.become(latest);
            }
            count--;
        }

        void forget() {
            count = 0;
        }
    }

    /** The script buffer, and the commands that were read from it. */
    private static final class Script {
        private static final int BARGE = 0;
        private static final int TUNE = 1;
        private static final int FIX = 2;
        private static final int DEMAND = 3;
        private static final int FLOW = 4;
        private static final int FILL = 5;
        private static final int LEAVE = 6;
        private static final int HOUR = 7;

        private static final int MOST_CHARACTERS = 60;
        /** No command is shorter than "hour". */
        private static final int MOST_COMMANDS = MOST_CHARACTERS / 4;
        private static final int ARGUMENTS = 3;
        private static final int MOST_DIGITS = 3;

        private final char[] text = new char[MOST_CHARACTERS];
        private int length;
        private final int[] commands = new int[MOST_COMMANDS];
        /** The arguments of the first command, then those of the next one, and so on. */
        private final int[] arguments = new int[MOST_COMMANDS * ARGUMENTS];
        private int count;
        private int position;
        private int argumentCount;

        boolean isFull() {
            return length >= MOST_CHARACTERS;
        }

        int append(char character) {
            if (length >= 0 && length < MOST_CHARACTERS) {
                text[length] = character;
                length++;
            }
            return length;
        }

        /** The commands that were read stay. */
        void clear() {
            length = 0;
        }

        /** Reads the commands; answers the error position, or NONE. */
        int read() {
            position = 0;
            count = 0;
            for (int turn = 0; turn < MOST_COMMANDS; turn++) {
                if (!readCommand()) {
                    return position;
                }
                if (position == length) {
                    return NONE;
                }
                if (!readSign(';')) {
                    return position;
                }
            }
            return position;
        }

        /** Performs the commands in order; answers the index of one that has a fault, or NONE. */
        int performOn(Canal canal) {
            for (int index = 0; index < count; index++) {
                int command = at(commands, index);
                int first = at(arguments, index * ARGUMENTS);
                int second = at(arguments, index * ARGUMENTS + 1);
                int third = at(arguments, index * ARGUMENTS + 2);
                if (canal.faultOf(command, first, second, third) != Fault.NOTHING) {
                    return index;
                }
                canal.perform(command, first, second, third);
            }
            return NONE;
        }

        /** Where no form fits, the one that fits longest tells the error position. */
        private boolean readCommand() {
            int start = position;
            int furthest = position;
            for (int command = BARGE; command <= HOUR; command++) {
                position = start;
                argumentCount = 0;
                if (readForm(formOf(command))) {
                    keepCommand(command);
                    return true;
                }
                furthest = Math.max(furthest, position);
            }
            position = furthest;
            return false;
        }

        /** The form of a command, with a capital letter for what readPart reads by it. */
        private static String formOf(int command) {
            switch (command) {
                case BARGE:
                    return "barge N DW";
                case TUNE:
                    return "tune D D N";
                case FIX:
                    return "fix D D";
                case DEMAND:
                    return "demand D K";
                case FLOW:
                    return "flow D";
                case FILL:
                    return "fill D N";
                case LEAVE:
                    return "leave N";
                default:
                    return "hourH";
            }
        }

        private void keepCommand(int command) {
            if (count >= 0 && count < MOST_COMMANDS) {
                commands[count] = command;
                count++;
            }
        }

        /** Answers true: what asked for the argument has been read. */
        private boolean keepArgument(int argument) {
            int place = count * ARGUMENTS + argumentCount;
            if (place >= 0 && place < arguments.length) {
                arguments[place] = argument;
                argumentCount++;
            }
            return true;
        }

        private boolean readForm(String form) {
            for (int index = 0; index < form.length(); index++) {
                if (!readPart(form.charAt(index))) {
                    return false;
                }
            }
            return true;
        }

        private boolean readPart(char part) {
            switch (part) {
                case 'D':
                    return readNumber(1);
                case 'N':
                    return readNumber(MOST_DIGITS);
                case 'W':
                    return readOneOf("du");
                case 'K':
                    return readOneOf("Mmda");
                case 'H':
                    return readSign(' ') ? readNumber(MOST_DIGITS) : keepArgument(1);
                default:
                    return readSign(part);
            }
        }

        private boolean readNumber(int mostDigits) {
            int number = 0;
            int digits = 0;
            while (digits < mostDigits && "0123456789".indexOf(next()) >= 0) {
                number = number * 10 + next() - '0';
                digits++;
                position++;
            }
            return digits > 0 && keepArgument(number);
        }

        private boolean readOneOf(String signs) {
            char sign = next();
            if (signs.indexOf(sign) < 0) {
                return false;
            }
            position++;
            return keepArgument(sign);
        }

        private boolean readSign(char sign) {
            if (next() != sign) {
                return false;
            }
            position++;
            return true;
        }

        /** At the end a character that no script has. */
        private char next() {
            return position >= 0 && position < length && position < MOST_CHARACTERS ? text[position] : (char) 0;
        }
    }
}
