import java.util.NoSuchElementException;

/** Promises 10 to 16 with the term "Notes and chords", sentence by sentence. */
public final class BoundariesOfChordsTest {
    private static final String FIRST_LISTED = "If several exceptions apply, the one that is listed first is thrown.";
    private static final Class<?> NO_PLACE = IndexOutOfBoundsException.class;
    private static final Class<?> BAD = IllegalArgumentException.class;
    private static final Class<?> NONE = NoSuchElementException.class;

    public static void main(String[] args) {
        Sentences.run(BoundariesOfChordsTest.class);
    }

    private static int sum(int... notes) {
        int sum = 0;
        for (int note : notes) {
            sum |= 1 << note;
        }
        return sum;
    }

    /** Kind and root, and the kind by steps, as in "M0M"; the root of no chord is left out. */
    private static String chord(int... notes) {
        ChordCanal canal = new ChordCanal();
        int sum = sum(notes);
        String root = View.numberOf(() -> canal.chordRoot(sum));
        return canal.chordKind(sum) + (root.equals("NoSuchElementException") ? "" : root)
                + canal.chordKindBySteps(sum);
    }

    @Of("if the sum is not between 0 and 4095")
    static void promise10SumsFrom0To4095() {
        Check.same("least", '-', new ChordCanal().chordKind(0));
        Check.same("greatest", '-', new ChordCanal().chordKind(4095));
        Check.refusesEach(BAD, Bad.SUMS, Canals::makeBusy, (c, notes) -> c.chordKind(notes));
        Check.refuses("a chord and the note 12", BAD, c -> { }, c -> c.chordKind(4096 + 145));
    }

    @Of("if the sum is not between 0 and 4095")
    static void promise11SumsFrom0To4095() {
        Check.same("least", '-', new ChordCanal().chordKindBySteps(0));
        Check.same("greatest", '-', new ChordCanal().chordKindBySteps(4095));
        Check.refusesEach(BAD, Bad.SUMS, Canals::makeBusy, (c, notes) -> c.chordKindBySteps(notes));
        Check.refuses("a chord and the note 12", BAD, c -> { }, c -> c.chordKindBySteps(4096 + 145));
    }

    @Of("if the sum is not between 0 and 4095")
    static void promise12SumsFrom0To4095() {
        Check.refusesEach(BAD, Bad.SUMS, Canals::makeBusy, (c, notes) -> c.chordRoot(notes));
        Check.refuses("a chord and the note 12", BAD, c -> { }, c -> c.chordRoot(4096 + 145));
        Check.refuses("least", NONE, c -> { }, c -> c.chordRoot(0));
        Check.refuses("greatest", NONE, c -> { }, c -> c.chordRoot(4095));
    }

    @Of("A chord is a set of at least three notes.")
    static void promise10FewerThanThreeNotesAreNoChord() {
        Check.same("no note", "--", chord());
        for (int first = 0; first < 12; first++) {
            for (int second = 0; second < 12; second++) {
                Check.same(first + " and " + second, "--", chord(first, second));
            }
        }
    }

    @Of("if the notes are no chord of one of the four kinds.")
    static void promise10FourNotesAreNoneOfTheKinds() {
        Check.same("major seventh", "--", chord(0, 4, 7, 11));
        Check.same("dominant seventh", "--", chord(0, 4, 7, 10));
        Check.same("four steps of 3", "--", chord(0, 3, 6, 9));
        Check.same("major and minor", "--", chord(0, 3, 4, 7));
    }

    @Of("or '-' if the notes are no chord of one of the four kinds.")
    static void promise10OtherSetsOfThreeNotesAreNoneOfTheKinds() {
        Check.same("neighbours", "--", chord(0, 1, 2));
        Check.same("suspended", "--", chord(0, 5, 7));
        Check.same("whole steps", "--", chord(0, 2, 4));
        Check.same("steps of 4, 2 and 6", "--", chord(0, 4, 6));
        Check.same("steps of 3, 4 and 5 in another order", "m9m", chord(0, 4, 9));
        Check.same("steps of 2, 5 and 5", "--", chord(0, 2, 7));
    }

    @Of("Chords are transposed by adding the same number to all notes, modulo 12.")
    static void promise10MajorChordsGoAroundTheCircle() {
        Check.same("the last that does not", "M4M", chord(4, 8, 11));
        Check.same("7 wraps", "M5M", chord(5, 9, 0));
        Check.same("4 does not yet", "M7M", chord(7, 11, 2));
        Check.same("4 wraps", "M8M", chord(8, 0, 3));
        Check.same("the last", "M11M", chord(11, 3, 6));
    }

    @Of("Chords are transposed by adding the same number to all notes, modulo 12.")
    static void promise10MinorChordsGoAroundTheCircle() {
        Check.same("the last that does not", "m4m", chord(4, 7, 11));
        Check.same("7 wraps", "m5m", chord(5, 8, 0));
        Check.same("3 does not yet", "m8m", chord(8, 11, 3));
        Check.same("3 wraps", "m9m", chord(9, 0, 4));
        Check.same("the last", "m11m", chord(11, 2, 6));
    }

    @Of("Chords are transposed by adding the same number to all notes, modulo 12.")
    static void promise10DiminishedChordsGoAroundTheCircle() {
        Check.same("the last that does not", "d5d", chord(5, 8, 11));
        Check.same("6 wraps", "d6d", chord(6, 9, 0));
        Check.same("3 does not yet", "d8d", chord(8, 11, 2));
        Check.same("3 wraps", "d9d", chord(9, 0, 3));
        Check.same("the last", "d11d", chord(11, 2, 5));
    }

    @Of("the root of an augmented chord is its lowest note.")
    static void promise12AugmentedChordsHaveTheLowestNoteAsRoot() {
        Check.same("0", "a0a", chord(0, 4, 8));
        Check.same("1", "a1a", chord(5, 9, 1));
        Check.same("2", "a2a", chord(10, 2, 6));
        Check.same("3", "a3a", chord(11, 7, 3));
    }

    @Of({"a major chord is {0, 4, 7} transposed, a minor chord is {0, 3, 7} transposed",
        "Returns the kind of a chord, found by comparing it with all transposed chords."})
    static void promise10EachKindThatIsNotTransposed() {
        Check.same("major", "M0M", chord(0, 4, 7));
        Check.same("minor", "m0m", chord(0, 3, 7));
        Check.same("diminished", "d0d", chord(0, 3, 6));
        Check.same("augmented", "a0a", chord(0, 4, 8));
    }

    /** Of 4096 sums 40 are chords: three kinds of 12 chords, and 4 augmented ones. */
    @Of({"Returns the same as chordKind", "Returns the kind, or '-'."})
    static void promise11AgreesWithChordKindForEachSum() {
        int chords = 0;
        for (int notes = 0; notes <= 4095; notes++) {
            char kind = new ChordCanal().chordKind(notes);
            Check.same("sum " + notes, kind, new ChordCanal().chordKindBySteps(notes));
            chords += kind == '-' ? 0 : 1;
        }
        Check.same("chords", 40, chords);
    }

    @Of("if the notes are no chord of one of the four kinds")
    static void promise12NoChordHasNoRoot() {
        int[] sums = {0, 1, sum(0, 4), sum(0, 1, 2), sum(0, 4, 7, 11), 4095};
        Check.refusesEach(NONE, sums, Canals::makeBusy, (c, notes) -> c.chordRoot(notes));
    }

    @Of("The root of a major, minor or diminished chord is the number by which it was transposed, modulo 12;")
    static void promise12EachRootFrom0To11() {
        for (int root = 0; root < 12; root++) {
            Check.same("major", "M" + root + "M", chord(root, (root + 4) % 12, (root + 7) % 12));
            Check.same("minor", "m" + root + "m", chord(root, (root + 3) % 12, (root + 7) % 12));
            Check.same("diminished", "d" + root + "d", chord(root, (root + 3) % 12, (root + 6) % 12));
        }
    }

    @Of("`notes`: the notes as a sum of 2 to the power of each note")
    static void promise10TheSumOf0And4And7Is145() {
        Check.same("lowest notes", 'M', new ChordCanal().chordKind(1 + 16 + 128));
        Check.same("with the highest note", 'm', new ChordCanal().chordKind(2048 + 4 + 64));
    }

    @Of("`notes`: the notes as a sum of 2 to the power of each note")
    static void promise11TheSumOf0And4And7Is145() {
        Check.same("lowest notes", 'M', new ChordCanal().chordKindBySteps(1 + 16 + 128));
        Check.same("with the highest note", 'm', new ChordCanal().chordKindBySteps(2048 + 4 + 64));
    }

    @Of({"`notes`: the notes as a sum of 2 to the power of each note", "Returns the root of a chord."})
    static void promise12TheSumOf0And4And7Is145() {
        Check.same("lowest notes", 0, new ChordCanal().chordRoot(1 + 16 + 128));
        Check.same("with the highest note", 11, new ChordCanal().chordRoot(2048 + 4 + 64));
    }

    @Of("if there is no such gate")
    static void promise13GatesFrom0To4() {
        ChordCanal canal = new ChordCanal();
        canal.tune(0, 0, 9);
        canal.tune(4, 0, 8);
        Check.same("first and last", "9 8", canal.sound(0, 0) + " " + canal.sound(4, 0));
        Check.refusesEach(NO_PLACE, Bad.GATES, Canals::makeBusy, (c, gate) -> c.sound(gate, 0));
    }

    @Of({"or no such string", "`string`: the string, 0 or 1"})
    static void promise13StringsAre0And1() {
        Check.same("strings", "0 4", new ChordCanal().sound(3, 0) + " " + new ChordCanal().sound(3, 1));
        Check.refusesEach(NO_PLACE, Bad.STRINGS, Canals::makeBusy, (c, string) -> c.sound(1, string));
        for (int[] place : Bad.CROSSED) {
            Check.refuses("crossed", NO_PLACE, Canals::makeBusy, c -> c.sound(place[0], place[1]));
        }
    }

    @Of("The sound of a string is its note if its wear is less than 10, and otherwise the note that follows it")
    static void promise13DetunedFromWear10On() {
        String[] due = {"0: 0 4", "9: 0 4", "10: 1 5", "20: 1 5"};
        for (String wear : due) {
            ChordCanal canal = new ChordCanal();
            int passages = Integer.parseInt(wear.split(":")[0]);
            Canals.wearGateFourTo(canal, passages);
            Check.same("sounds", wear, passages + ": " + canal.sound(4, 0) + " " + canal.sound(4, 1));
        }
    }

    @Of("where 0 follows 11.")
    static void promise13TheNoteAfter11Is0() {
        ChordCanal canal = new ChordCanal();
        canal.tune(4, 0, 11);
        Check.same("not worn", 11, canal.sound(4, 0));
        canal.tune(4, 0, 0);
        Canals.wearGateFourTo(canal, 10);
        canal.tune(4, 0, 11);
        canal.tune(4, 1, 10);
        Check.same("worn", "0 11", canal.sound(4, 0) + " " + canal.sound(4, 1));
    }

    @Of("The sounds of a gate are those of its two strings.")
    static void promise13EachStringSoundsByItsOwnWear() {
        ChordCanal canal = new ChordCanal();
        Canals.wearGateFourTo(canal, 10);
        canal.replaceString(4, 0);
        Check.same("one is new", "0 5 9", canal.sound(4, 0) + " " + canal.sound(4, 1) + " "
                + canal.lowestOpeningNote(4));
    }

    @Of("if there is no such gate")
    static void promise14GatesFrom0To4() {
        ChordCanal canal = new ChordCanal();
        canal.tune(0, 0, 4);
        canal.setDemand(4, 'd');
        canal.tune(4, 1, 3);
        Check.same("first and last", "0 1 2", canal.openingNotes(0) + " " + canal.openingNotes(1) + " "
                + canal.openingNotes(4));
        Check.refusesEach(NO_PLACE, Bad.GATES, Canals::makeBusy, (c, gate) -> c.openingNotes(gate));
    }

    /** The notes that open gate 2 with these strings and this demand, and their number. */
    private static String opening(int first, int second, char kind) {
        ChordCanal canal = new ChordCanal();
        canal.tune(2, 0, first);
        canal.tune(2, 1, second);
        canal.setDemand(2, kind);
        StringBuilder notes = new StringBuilder();
        for (int note = 0; note < 12; note++) {
            notes.append(canal.opensTo(2, note) ? note + "," : "");
        }
        String lowest = View.numberOf(() -> canal.lowestOpeningNote(2));
        return notes + " " + canal.openingNotes(2) + " " + (lowest.startsWith("No") ? "none" : lowest);
    }

    @Of("Returns how many notes would form a chord of the demanded kind with the sounds of a gate.")
    static void promise14NoneOneOrTwoNotes() {
        Check.same("none", " 0 none", opening(0, 4, 'd'));
        Check.same("no kind has these", " 0 none", opening(0, 1, 'M'));
        Check.same("one", "7, 1 7", opening(0, 4, 'M'));
        Check.same("two", "6,9, 2 6", opening(0, 3, 'd'));
    }

    @Of("A chord is a set of at least three notes.")
    static void promise14StringsThatSoundAlikeLeaveNoChord() {
        for (char kind : "Mmda".toCharArray()) {
            Check.same("alike, " + kind, " 0 none", opening(5, 5, kind));
        }
    }

    @Of("A chord is a set of at least three notes.")
    static void promise16TheNoteOfAStringItselfDoesNotOpen() {
        ChordCanal canal = new ChordCanal();
        for (char kind : "Mmda".toCharArray()) {
            canal.setDemand(0, kind);
            Check.same("kind " + kind, "false false", canal.opensTo(0, 0) + " " + canal.opensTo(0, 4));
        }
    }

    @Of("if there is no such gate")
    static void promise15GatesFrom0To4() {
        ChordCanal canal = new ChordCanal();
        canal.tune(0, 1, 7);
        canal.tune(4, 1, 3);
        Check.same("first and last", "4 7 8", canal.lowestOpeningNote(0) + " " + canal.lowestOpeningNote(3) + " "
                + canal.lowestOpeningNote(4));
        Check.refusesEach(NO_PLACE, Bad.GATES, Canals::makeBusy, (c, gate) -> c.lowestOpeningNote(gate));
    }

    @Of("if there is no such note")
    static void promise15NoNoteOpens() {
        Check.refuses("alike", NONE, c -> c.tune(1, 0, 4), c -> c.lowestOpeningNote(1));
        Check.refuses("neighbours", NONE, c -> c.tune(1, 0, 3), c -> c.lowestOpeningNote(1));
        Check.refuses("another demand", NONE, c -> c.setDemand(1, 'd'), c -> c.lowestOpeningNote(1));
    }

    @Of("Returns the lowest note that would form a chord of the demanded kind with the sounds of a gate.")
    static void promise15TheLowestOfTwoAndTheEndsOfTheRange() {
        Check.same("two", "6,9, 2 6", opening(0, 3, 'd'));
        Check.same("two around the circle", "2,5, 2 2", opening(8, 11, 'd'));
        Check.same("0", "0, 1 0", opening(4, 7, 'M'));
        Check.same("11", "11, 1 11", opening(4, 8, 'M'));
    }

    @Of("if there is no such gate")
    static void promise16GatesFrom0To4() {
        ChordCanal canal = new ChordCanal();
        canal.tune(0, 1, 7);
        canal.tune(4, 1, 3);
        Check.same("first and last", "true true", canal.opensTo(0, 4) + " " + canal.opensTo(4, 8));
        Check.same("one between", "false true", canal.opensTo(3, 8) + " " + canal.opensTo(3, 7));
        Check.refusesEach(NO_PLACE, Bad.GATES, Canals::makeBusy, (c, gate) -> c.opensTo(gate, 7));
    }

    @Of("if the note is not between 0 and 11")
    static void promise16NotesFrom0To11() {
        ChordCanal canal = new ChordCanal();
        canal.tune(0, 0, 7);
        canal.tune(1, 0, 8);
        Check.same("lowest and highest", "true true", canal.opensTo(0, 0) + " " + canal.opensTo(1, 11));
        Check.refusesEach(BAD, Bad.NOTES, Canals::makeBusy, (c, note) -> c.opensTo(1, note));
        Check.refuses("7 in the next circle", BAD, c -> { }, c -> c.opensTo(1, 12 + 7));
        Check.refuses("7 after 32 places", BAD, c -> { }, c -> c.opensTo(1, 32 + 7));
    }

    @Of(FIRST_LISTED)
    static void promise16TheGateComesBeforeTheNote() {
        Check.refuses("gate 5", NO_PLACE, Canals::makeBusy, c -> c.opensTo(5, 12));
        Check.refuses("gate -1", NO_PLACE, Canals::makeBusy, c -> c.opensTo(-1, -1));
    }
}
