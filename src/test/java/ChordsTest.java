import java.util.NoSuchElementException;

/** Promises 10 to 16: chords, and the notes that open a gate. */
public final class ChordsTest {
    public static void main(String[] args) {
        promises10To12AllSums();
        promises10To12Examples();
        promises10To12Refused();
        promise13Sound();
        promises14To16Opening();
        promises14To16NoNote();
        promises13To16Refused();
        Check.done();
    }

    /** Compares with chords that are written note by note, for every sum. */
    private static void promises10To12AllSums() {
        String[] kinds = {"M047", "m037", "d036", "a048"};
        int chords = 0;
        for (int notes = 0; notes <= 4095; notes++) {
            ChordCanal canal = new ChordCanal();
            char kind = '-';
            int root = -1;
            for (String form : kinds) {
                for (int by = 11; by >= 0; by--) {
                    int sum = 0;
                    for (int index = 1; index < 4; index++) {
                        sum += (int) Math.pow(2, (form.charAt(index) - '0' + by) % 12);
                    }
                    if (sum == notes) {
                        kind = form.charAt(0);
                        root = kind == 'a' ? Integer.numberOfTrailingZeros(sum) : by;
                    }
                }
            }
            Check.same("chordKind " + notes, kind, canal.chordKind(notes));
            Check.same("chordKindBySteps " + notes, kind, canal.chordKindBySteps(notes));
            int sum = notes;
            if (kind == '-') {
                Check.same("chordRoot " + notes, "NoSuchElementException",
                        Check.thrownBy(() -> canal.chordRoot(sum)));
            } else {
                Check.same("chordRoot " + notes, root, canal.chordRoot(notes));
                chords++;
            }
        }
        Check.same("chords", 12 + 12 + 12 + 4, chords);
    }

    private static void promises10To12Examples() {
        ChordCanal canal = new ChordCanal();
        Check.same("A minor", "m9", canal.chordKind(1 + 16 + 512) + "" + canal.chordRoot(1 + 16 + 512));
        Check.same("G major", "M7", canal.chordKind(128 + 2048 + 4) + "" + canal.chordRoot(128 + 2048 + 4));
        Check.same("B diminished", "d11", canal.chordKind(2048 + 4 + 32) + "" + canal.chordRoot(2048 + 4 + 32));
        Check.same("augmented", "a3", canal.chordKind(8 + 128 + 2048) + "" + canal.chordRoot(8 + 128 + 2048));
        Check.same("a seventh chord", '-', canal.chordKind(1 + 16 + 128 + 1024));
        Check.same("two notes", '-', canal.chordKindBySteps(1 + 16));
    }

    private static void promises10To12Refused() {
        ChordCanal canal = new ChordCanal();
        for (int bad : new int[] {-1, 4096, 4096 + 145, Integer.MIN_VALUE, Integer.MIN_VALUE + 145, Integer.MAX_VALUE}) {
            Check.refused("kind " + bad, IllegalArgumentException.class, canal, () -> canal.chordKind(bad));
            Check.refused("steps " + bad, IllegalArgumentException.class, canal, () -> canal.chordKindBySteps(bad));
            Check.refused("root " + bad, IllegalArgumentException.class, canal, () -> canal.chordRoot(bad));
        }
        Check.refused("root of nothing", NoSuchElementException.class, canal, () -> canal.chordRoot(0));
        Check.refused("root of all", NoSuchElementException.class, canal, () -> canal.chordRoot(4095));
    }

    private static void promise13Sound() {
        ChordCanal canal = new ChordCanal();
        canal.tune(3, 0, 1);
        Check.same("sounds", "0 4", canal.sound(4, 0) + " " + canal.sound(4, 1));
        Canals.wearGateFour(canal, 7, 9);
        Check.same("wear 9", "0 4", canal.sound(4, 0) + " " + canal.sound(4, 1));
        Canals.wearGateFour(canal, 7, 1);
        Check.same("wear 10", "1 5", canal.sound(4, 0) + " " + canal.sound(4, 1));
        canal.tune(4, 1, 11);
        Check.same("0 follows 11", 0, canal.sound(4, 1));
        canal.tune(4, 1, 10);
        Check.same("11 follows 10", 11, canal.sound(4, 1));
        Check.same("the note stays", 10, canal.note(4, 1));
    }

    private static void promises14To16Opening() {
        // Seven semitones apart: the root and the fifth leave one note, the third, for major and for minor.
        opening(0, 0, 4, "M7 m9 d a8");
        opening(1, 0, 7, "M4 m3 d a");
        opening(2, 0, 3, "M8 m7 d6,9 a");
        opening(3, 6, 0, "M m d3,9 a");
        opening(4, 11, 2, "M7 m6 d5,8 a");
        opening(4, 5, 5, "M m d a");
        opening(4, 5, 6, "M m d a");
        opening(4, 9, 1, "M4 m6 d a5");
    }

    /** Behind each kind stand the notes that are due. */
    private static void opening(int gate, int first, int second, String due) {
        ChordCanal canal = new ChordCanal();
        canal.tune(gate, 0, first);
        canal.tune(gate, 1, second);
        StringBuilder got = new StringBuilder();
        for (char kind : "Mmda".toCharArray()) {
            canal.setDemand(gate, kind);
            got.append(got.length() == 0 ? "" : " ").append(kind);
            int count = 0;
            int lowest = -1;
            for (int note = 0; note < 12; note++) {
                if (canal.opensTo(gate, note)) {
                    got.append(count == 0 ? "" : ",").append(note);
                    lowest = count == 0 ? note : lowest;
                    count++;
                }
            }
            Check.same("openingNotes " + kind, count, canal.openingNotes(gate));
            if (count > 0) {
                Check.same("lowestOpeningNote " + kind, lowest, canal.lowestOpeningNote(gate));
            } else {
                Check.refused("lowestOpeningNote " + kind, NoSuchElementException.class, canal,
                        () -> canal.lowestOpeningNote(gate));
            }
        }
        Check.same("opening of " + first + " and " + second, due, got.toString());
    }

    private static void promises14To16NoNote() {
        ChordCanal canal = new ChordCanal();
        canal.tune(3, 0, 1);
        Canals.wearGateFour(canal, 7, 10);
        Check.same("detuned", "1 8", canal.openingNotes(4) + " " + canal.lowestOpeningNote(4));
        Check.same("the old note", false, canal.opensTo(4, 7));
        canal.replaceString(4, 0);
        Check.same("one replaced", "1 9", canal.openingNotes(4) + " " + canal.lowestOpeningNote(4));
        canal.tune(4, 1, 11);
        Check.same("both sound 0", 0, canal.openingNotes(4));
        Check.refused("no note", NoSuchElementException.class, canal, () -> canal.lowestOpeningNote(4));
    }

    private static void promises13To16Refused() {
        for (int bad : new int[] {Integer.MIN_VALUE, -1, 5, Integer.MAX_VALUE}) {
            ChordCanal canal = new ChordCanal();
            Class<?> due = IndexOutOfBoundsException.class;
            Check.refused("sound", due, canal, () -> canal.sound(bad, 0));
            Check.refused("openingNotes", due, canal, () -> canal.openingNotes(bad));
            Check.refused("lowestOpeningNote", due, canal, () -> canal.lowestOpeningNote(bad));
            Check.refused("opensTo", due, canal, () -> canal.opensTo(bad, 0));
            Check.refused("opensTo, both", due, canal, () -> canal.opensTo(bad, 12));
        }
        ChordCanal canal = new ChordCanal();
        for (int bad : new int[] {Integer.MIN_VALUE, -1, 2, Integer.MAX_VALUE}) {
            Check.refused("string", IndexOutOfBoundsException.class, canal, () -> canal.sound(0, bad));
        }
        for (int bad : new int[] {Integer.MIN_VALUE, -1, 12, 32 + 7, Integer.MAX_VALUE}) {
            Check.refused("note", IllegalArgumentException.class, canal, () -> canal.opensTo(4, bad));
        }
    }
}
