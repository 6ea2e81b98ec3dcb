import java.lang.reflect.Method;
import java.util.ArrayList;
import java.util.Arrays;
import java.util.HashSet;
import java.util.List;
import java.util.Set;

/** Each sentence of the document is quoted by a test that is named by its promise, or is listed here. */
public final class DocumentTest {
    private static final List<Class<?>> TESTS = List.of(BoundariesOfChangesTest.class, BoundariesOfHoursTest.class,
            BoundariesOfChordsTest.class, BoundariesOfGatesTest.class, BoundariesOfBargesTest.class,
            BoundariesOfTotalsTest.class, BoundariesOfTextsTest.class, BoundariesOfUndoTest.class);

    /** Headings, what no call can show, and what names no boundary that another sentence would not name. */
    private static final Set<String> WITHOUT_BOUNDARY = Set.of("""
            The class recognizes chords in two ways and offers predictions, rankings, a small command language, undo \
            and a snapshot.
            It is not thread-safe.
            All integer divisions round down.
            Notes and chords.
            Canal.
            Gates.
            Barges.
            Passing.
            One hour.
            Predictions.
            Scripts.
            Changes.
            Exceptions.
            Adds a barge.
            Sets the kind of chord that a gate demands.
            Sets the inflow.
            Fills water into a reach.
            `note`: the note
            `draught`: the draught
            `gate`: the gate
            `note`: the new note
            `units`: the units per hour
            `reach`: the reach
            `units`: the number of units
            `barge`: the id of the barge
            `hours`: the number of hours
            `index`: the index of the character
            `character`: the character
            Returns the root.
            Returns the sound of a string.
            Returns the note that sounds.
            Returns the number of notes.
            Returns the note.
            Returns whether a barge with a note would form a chord of the demanded kind with the sounds of a gate.
            Returns true if it would.
            Returns the wear of a string.
            Returns the wear.
            Returns the kind of chord that a gate demands.
            Returns the number of passages.
            Returns the gate.
            Returns the water in a reach.
            Returns the number of units.
            Returns a barge in a reach.
            Returns true if it exists.
            Returns the draught.
            Returns true if it goes down.
            Returns the reach.
            Returns true if it can.
            Returns the number of gates.
            Returns the number of hours.
            Returns the units per hour.
            Returns the mean wear.
            Returns the share.
            Returns true if all of this holds.
            Returns the character.
            Returns the error position.
            23: Returns the number of barges.
            24: Returns the id of the barge.
            42: Returns the number of barges.
            """.split("\n"));

    public static void main(String[] args) {
        List<Method> tests = new ArrayList<>();
        TESTS.forEach(type -> tests.addAll(Sentences.testsOf(type)));
        tests.forEach(DocumentTest::quotes);
        Set<String> listed = new HashSet<>(WITHOUT_BOUNDARY);
        for (String sentence : Document.terms()) {
            covered("Terms", sentence, tests, listed);
        }
        for (int promise = 1; promise <= Document.PROMISES; promise++) {
            int number = promise;
            List<Method> own = tests.stream().filter(test -> Sentences.promiseOf(test) == number).toList();
            Check.same("promise " + promise + " has tests", true, !own.isEmpty());
            for (String sentence : Document.promise(promise)) {
                covered(String.valueOf(promise), sentence, own, listed);
            }
        }
        Check.same("listed, but not in the document or tested", Set.of(), listed);
        Check.done();
    }

    /** All that a test quotes stands in one sentence of the terms or of its promise. */
    private static void quotes(Method test) {
        int promise = Sentences.promiseOf(test);
        Check.same(test.getName() + " tells its promise", true, promise >= 1 && promise <= Document.PROMISES);
        Set<String> sentences = new HashSet<>(Document.terms());
        sentences.addAll(Document.promise(promise));
        for (String words : Sentences.wordsOf(test)) {
            Check.same(test.getName() + " quotes \"" + words + "\" from so many sentences", 1L,
                    sentences.stream().filter(sentence -> sentence.contains(words)).count());
        }
    }

    /** Takes a sentence that no test quotes out of those that are listed. */
    private static void covered(String where, String sentence, List<Method> tests, Set<String> listed) {
        boolean isTested = tests.stream().flatMap(test -> Arrays.stream(Sentences.wordsOf(test)))
                .anyMatch(sentence::contains);
        if (!isTested) {
            boolean isListed = WITHOUT_BOUNDARY.contains(sentence)
                    || WITHOUT_BOUNDARY.contains(where + ": " + sentence);
            Check.same(where + ", \"" + sentence + "\" is tested or listed", true, isListed);
            listed.remove(sentence);
            listed.remove(where + ": " + sentence);
        }
    }
}
