import java.util.NoSuchElementException;

/** Promises 25 to 34 with the terms "Passing" and "Predictions", sentence by sentence. */
public final class BoundariesOfBargesTest {
    private static final String NO_SUCH_BARGE = "if there is no such barge";
    private static final String PASSES_IF = "A barge can pass the gate towards its direction if its note and the sounds"
            + " of the gate form a chord of the demanded kind";
    private static final String ROOM = "the reach behind the gate has room";
    private static final String WATER = "the water in this reach is at least 5 times the draught of the barge.";
    private static final Class<?> NO_PLACE = IndexOutOfBoundsException.class;
    private static final Class<?> NONE = NoSuchElementException.class;
    private static final Class<?> NEVER = IllegalStateException.class;

    public static void main(String[] args) {
        Sentences.run(BoundariesOfBargesTest.class);
    }

    @Of("Returns the number of barges.")
    static void promise25From0To8() {
        ChordCanal canal = new ChordCanal();
        for (int barges = 0; barges < 8; barges++) {
            Check.same("barges", barges, canal.bargeCount());
            canal.addBarge(7, 1, barges % 2 == 0);
        }
        Check.same("barges", 8, canal.bargeCount());
    }

    @Of("Returns the number of barges.")
    static void promise25WithoutThoseThatAreGone() {
        ChordCanal canal = new ChordCanal();
        Canals.makeThreeGone(canal);
        Check.same("barges", 2, canal.bargeCount());
    }

    @Of("Returns whether a barge exists.")
    static void promise26FromItsBeginningToItsEnd() {
        ChordCanal canal = Canals.withBarges(2);
        Check.same("0, 1 and the next id", "true true false", canal.exists(0) + " " + canal.exists(1) + " "
                + canal.exists(2));
        canal.removeBarge(1);
        canal.advance(4);
        Check.same("1 is removed", "true false", canal.exists(0) + " " + canal.exists(1));
        canal.advance(1);
        Check.same("0 has left", "false false", canal.exists(0) + " " + canal.exists(1));
    }

    @Of("`barge`: any number")
    static void promise26AnyNumberIsAnswered() {
        for (int number : new int[] {0, -1, 8, Integer.MIN_VALUE, Integer.MAX_VALUE}) {
            Check.same("in a new canal " + number, false, new ChordCanal().exists(number));
        }
        ChordCanal canal = new ChordCanal();
        Canals.makeThreeGone(canal);
        for (int gone : Canals.GONE) {
            Check.same("gone " + gone, false, canal.exists(gone));
        }
    }

    @Of(NO_SUCH_BARGE)
    static void promise27BargesThatDoNotExistAreRefused() {
        Check.refusesEach(NONE, Canals.GONE, Canals::makeThreeGone, (c, barge) -> c.noteOf(barge));
        Check.refuses("no barge at all", NONE, c -> { }, c -> c.noteOf(0));
    }

    @Of(NO_SUCH_BARGE)
    static void promise28BargesThatDoNotExistAreRefused() {
        Check.refusesEach(NONE, Canals.GONE, Canals::makeThreeGone, (c, barge) -> c.draughtOf(barge));
        Check.refuses("no barge at all", NONE, c -> { }, c -> c.draughtOf(0));
    }

    @Of(NO_SUCH_BARGE)
    static void promise29BargesThatDoNotExistAreRefused() {
        Check.refusesEach(NONE, Canals.GONE, Canals::makeThreeGone, (c, barge) -> c.isGoingDown(barge));
        Check.refuses("no barge at all", NONE, c -> { }, c -> c.isGoingDown(0));
    }

    @Of(NO_SUCH_BARGE)
    static void promise30BargesThatDoNotExistAreRefused() {
        Check.refusesEach(NONE, Canals.GONE, Canals::makeThreeGone, (c, barge) -> c.reachOf(barge));
        Check.refuses("no barge at all", NONE, c -> { }, c -> c.reachOf(0));
    }

    @Of(NO_SUCH_BARGE)
    static void promise31BargesThatDoNotExistAreRefused() {
        Check.refusesEach(NONE, Canals.GONE, Canals::makeThreeGone, (c, barge) -> c.canPass(barge));
        Check.refuses("no barge at all", NONE, c -> { }, c -> c.canPass(0));
    }

    @Of(NO_SUCH_BARGE)
    static void promise32BargesThatDoNotExistAreRefused() {
        Check.refusesEach(NONE, Canals.GONE, Canals::makeThreeGone, (c, barge) -> c.gatesLeft(barge));
        Check.refuses("no barge at all", NONE, c -> { }, c -> c.gatesLeft(0));
    }

    @Of("Returns the note of a barge.")
    static void promise27NotesFrom0To11() {
        ChordCanal canal = new ChordCanal();
        canal.addBarge(0, 1, true);
        canal.addBarge(11, 1, false);
        Check.same("notes", "0 11", canal.noteOf(0) + " " + canal.noteOf(1));
    }

    @Of("Returns the draught of a barge.")
    static void promise28DraughtsFrom1To9() {
        ChordCanal canal = new ChordCanal();
        canal.addBarge(0, 1, true);
        canal.addBarge(0, 9, false);
        Check.same("draughts", "1 9", canal.draughtOf(0) + " " + canal.draughtOf(1));
    }

    @Of("Returns whether a barge goes down.")
    static void promise29TheDirectionStays() {
        ChordCanal canal = Canals.withBarges(1);
        Canals.addBarges(canal, 1, false);
        canal.advance(4);
        Check.same("on the way", "true false", canal.isGoingDown(0) + " " + canal.isGoingDown(1));
    }

    @Of("Returns the reach in which a barge is.")
    static void promise30FromTheFirstReachToTheLastButOne() {
        ChordCanal canal = Canals.withBarges(1);
        StringBuilder reaches = new StringBuilder().append(canal.reachOf(0));
        for (int hour = 0; hour < 4; hour++) {
            canal.advance(1);
            reaches.append(canal.reachOf(0));
        }
        canal.advance(1);
        canal.addBarge(7, 1, false);
        reaches.append(' ').append(canal.reachOf(1));
        for (int hour = 0; hour < 4; hour++) {
            canal.advance(1);
            reaches.append(canal.reachOf(1));
        }
        Check.same("reaches", "01234 54321", reaches.toString());
    }

    @Of({PASSES_IF, "Returns whether a barge can pass its gate now."})
    static void promise31OfAllNotesOneOpens() {
        for (int note = 0; note <= 11; note++) {
            ChordCanal canal = new ChordCanal();
            canal.addBarge(note, 1, true);
            canal.addBarge(note, 1, false);
            Check.same("note " + note, (note == 7) + " " + (note == 7), canal.canPass(0) + " " + canal.canPass(1));
        }
    }

    @Of(PASSES_IF)
    static void promise31TheGateTowardsItsDirectionDecides() {
        ChordCanal canal = Canals.withBarges(1);
        canal.addBarge(7, 1, false);
        canal.tune(2, 0, 1);
        canal.advance(5);
        canal.tune(2, 0, 0);
        canal.tune(1, 0, 1);
        canal.tune(3, 0, 1);
        Check.same("gate 2 for both", "2 3 true true", canal.reachOf(0) + " " + canal.reachOf(1) + " "
                + canal.canPass(0) + " " + canal.canPass(1));
        canal.tune(1, 0, 0);
        canal.tune(3, 0, 0);
        canal.tune(2, 0, 1);
        Check.same("not the gates behind them", "false false", canal.canPass(0) + " " + canal.canPass(1));
    }

    @Of(PASSES_IF)
    static void promise31TheDemandedKindDecides() {
        ChordCanal canal = Canals.withBarges(1);
        for (char kind : "mda".toCharArray()) {
            canal.setDemand(0, kind);
            Check.same("kind " + kind, false, canal.canPass(0));
        }
        canal.setDemand(0, 'M');
        Check.same("kind M", true, canal.canPass(0));
    }

    @Of(ROOM)
    static void promise31ThreeBargesFillAReach() {
        for (int reach = 1; reach <= 4; reach++) {
            roomIn(reach, true);
            roomIn(reach, false);
        }
    }

    /** Three barges stop in the reach, the fourth one waits before the gate to it. */
    private static void roomIn(int reach, boolean down) {
        String what = "reach " + reach + (down ? " down" : " up");
        ChordCanal canal = new ChordCanal();
        Canals.addBarges(canal, 4, down);
        canal.tune(down ? reach : reach - 1, 0, 1);
        int hours = down ? reach : 5 - reach;
        canal.advance(hours + 1);
        Check.same(what + ", two there", "2 true", canal.bargesIn(reach) + " " + canal.canPass(2));
        canal.advance(10);
        Check.same(what + ", three there", "3 false", canal.bargesIn(reach) + " " + canal.canPass(3));
        canal.removeBarge(1);
        Check.same(what + ", one removed", true, canal.canPass(3));
    }

    @Of("there is no such limit for the reaches 0 and 5.")
    static void promise31ThereIsAlwaysRoomInReach0AndReach5() {
        for (boolean down : new boolean[] {true, false}) {
            ChordCanal canal = new ChordCanal();
            for (int barge = 0; barge < 7; barge++) {
                canal.addBarge(6, 1, !down);
            }
            canal.addBarge(7, 1, down);
            canal.advance(4);
            Check.same("seven are there", "7 true", canal.bargesIn(down ? 5 : 0) + " " + canal.canPass(7));
        }
    }

    @Of(WATER)
    static void promise31DownTheWaterMustBeFiveTimesTheDraught() {
        needsDown(9, 3, 2, 45);
        needsDown(8, 4, 3, 40);
        needsDown(2, 9, 3, 10);
        needsDown(1, 10, 4, 5);
    }

    /** Reach 1 is lowered, and filled up to one unit too few. */
    private static void needsDown(int draught, int passages, int units, int due) {
        ChordCanal canal = new ChordCanal();
        Canals.lowerReachOne(canal, passages);
        canal.replaceString(1, 0);
        canal.replaceString(1, 1);
        int barge = canal.addBarge(7, draught, true);
        canal.fill(1, units);
        Check.same("draught " + draught, (due - 1) + " false", canal.water(1) + " " + canal.canPass(barge));
        canal.fill(1, 1);
        Check.same("draught " + draught, due + " true", canal.water(1) + " " + canal.canPass(barge));
    }

    @Of(WATER)
    static void promise31UpTheWaterMustBeFiveTimesTheDraught() {
        for (int draught = 1; draught <= 9; draught++) {
            ChordCanal canal = new ChordCanal();
            Canals.drain(canal);
            int barge = canal.addBarge(7, draught, false);
            canal.advance(4);
            Check.same("no water", "0 1 false", canal.water(0) + " " + canal.reachOf(barge) + " "
                    + canal.canPass(barge));
            canal.fill(0, 5 * draught - 1);
            Check.same("one too few", false, canal.canPass(barge));
            canal.fill(0, 1);
            Check.same("enough", true, canal.canPass(barge));
        }
    }

    @Of(WATER)
    static void promise31TheWaterBeforeTheGateDoesNotCount() {
        ChordCanal canal = new ChordCanal();
        Canals.drain(canal);
        int barge = canal.addBarge(7, 9, true);
        Check.same("it begins in an empty reach", "0 true", canal.water(0) + " " + canal.canPass(barge));
    }

    @Of("Returns the number of gates that a barge still has to pass.")
    static void promise32From5To1() {
        ChordCanal canal = Canals.withBarges(1);
        StringBuilder gates = new StringBuilder().append(canal.gatesLeft(0));
        for (int hour = 0; hour < 4; hour++) {
            canal.advance(1);
            gates.append(canal.gatesLeft(0));
        }
        canal.advance(1);
        canal.addBarge(7, 1, false);
        gates.append(' ').append(canal.gatesLeft(1));
        for (int hour = 0; hour < 4; hour++) {
            canal.advance(1);
            gates.append(canal.gatesLeft(1));
        }
        Check.same("gates left", "54321 54321", gates.toString());
    }

    @Of(NO_SUCH_BARGE)
    static void promise33BargesThatDoNotExistAreRefused() {
        Check.refusesEach(NONE, Canals.GONE, Canals::makeThreeGone, (c, barge) -> c.hoursUntilLeaving(barge));
        Check.refuses("no barge at all", NONE, c -> { }, c -> c.hoursUntilLeaving(0));
    }

    @Of("if it does not leave within 200 hours")
    static void promise33ABargeThatNeverLeavesIsRefused() {
        Check.refuses("no chord", NEVER, c -> c.addBarge(6, 1, true), c -> c.hoursUntilLeaving(0));
        Check.refuses("one gate before the end", NEVER, c -> {
            c.addBarge(7, 1, false);
            c.tune(0, 1, 5);
        }, c -> c.hoursUntilLeaving(0));
        Check.refuses("no water", NEVER, c -> {
            Canals.drain(c);
            c.addBarge(7, 1, false);
            c.advance(4);
            c.fill(0, 4);
        }, c -> c.hoursUntilLeaving(10));
        Check.refuses("no room", NEVER, c -> {
            Canals.addBarges(c, 3, true);
            c.tune(1, 0, 1);
            c.advance(5);
            c.addBarge(7, 1, true);
            c.tune(1, 0, 0);
            c.setDemand(1, 'm');
        }, c -> c.hoursUntilLeaving(3));
    }

    /** The longest time that was found: 45 hours until 45 units are in reach 0, then 6 hours for each further one. */
    @Of("if it does not leave within 200 hours")
    static void promise33EightBargesThatWaitForWaterLeaveIn87Hours() {
        ChordCanal canal = new ChordCanal();
        makeWaiting(canal, 0);
        StringBuilder hours = new StringBuilder();
        for (int reach = 1; reach <= 3; reach++) {
            for (int position = 0; position < canal.bargesIn(reach); position++) {
                hours.append(canal.hoursUntilLeaving(canal.bargeIn(reach, position))).append(' ');
            }
        }
        Check.same("hours", "45 51 57 63 69 75 81 87 ", hours.toString());
        Check.same("before the last hour", 7, canal.advance(86));
        Check.same("in the last hour", 1, canal.advance(1));
    }

    /** Eight barges that go up wait for an inflow of 1 unit an hour into reach 0, which is empty. */
    private static void makeWaiting(ChordCanal canal, int wear) {
        Canals.drain(canal);
        Canals.addBarges(canal, wear, true);
        canal.advance(10);
        canal.fill(1, 20);
        for (int barge = 0; barge < 8; barge++) {
            canal.addBarge(7, 9, false);
        }
        canal.advance(20);
        for (int reach = 1; reach <= 4; reach++) {
            canal.fill(reach, 90 - canal.water(reach));
        }
        Check.same("waiting", "0|90***|90***|90**|90|90", Canals.picture(canal));
        Check.same("wear of gate 0", wear + " " + wear, canal.wear(0, 0) + " " + canal.wear(0, 1));
        canal.setInflow(1);
    }

    @Of("Predicts after how many hours a barge leaves at the end of the canal.")
    static void promise33From1HourOn() {
        for (boolean down : new boolean[] {true, false}) {
            ChordCanal canal = new ChordCanal();
            canal.addBarge(7, 1, down);
            for (int hours = 5; hours >= 1; hours--) {
                Check.same("hours", hours, canal.hoursUntilLeaving(0));
                canal.advance(1);
            }
            Check.same("left", false, canal.exists(0));
        }
    }

    @Of("A prediction describes what would happen if nothing but hours happened from now on.")
    static void promise33OtherBargesAndTheWearCount() {
        ChordCanal canal = new ChordCanal();
        Canals.wearGateFour(canal, 7, 8);
        Canals.addBarges(canal, 3, false);
        Check.same("the first two", "5 6", canal.hoursUntilLeaving(8) + " " + canal.hoursUntilLeaving(9));
        Check.same("the third finds gate 4 detuned", "IllegalStateException",
                Check.thrownBy(() -> canal.hoursUntilLeaving(10)));
        canal.removeBarge(9);
        Check.same("without the second", 6, canal.hoursUntilLeaving(10));
    }

    @Of("It does not change the state.")
    static void promise33ChangesNothing() {
        String before = after(canal -> { });
        Check.same("an answer", before, after(canal -> Check.same("hours", 5, canal.hoursUntilLeaving(9))));
        Check.same("an exception", before, after(canal -> Check.same("thrown", "IllegalStateException",
                Check.thrownBy(() -> canal.hoursUntilLeaving(10)))));
    }

    @Of("It does not change the state.")
    static void promise34ChangesNothing() {
        String before = after(canal -> { });
        Check.same("an answer", before, after(canal -> Check.same("hours", 1, canal.hoursUntilDetuned(4, 0))));
        Check.same("an exception", before, after(canal -> Check.same("thrown", "NoSuchElementException",
                Check.thrownBy(() -> canal.hoursUntilDetuned(1, 0)))));
    }

    /** All of a canal after these calls: barge 9 will detune gate 4 and leave, barge 10 will not leave. */
    private static String after(Check.Use calls) {
        ChordCanal canal = new ChordCanal();
        Canals.wearGateFour(canal, 7, 9);
        canal.addBarge(7, 1, false);
        canal.addBarge(6, 1, true);
        canal.save();
        canal.setInflow(3);
        canal.renderGate(4);
        canal.type('h');
        calls.of(canal);
        calls.of(canal);
        return View.ofAll(canal);
    }

    @Of("if there is no such gate")
    static void promise34GatesFrom0To4() {
        ChordCanal canal = new ChordCanal();
        Canals.wearGateFourTo(canal, 10);
        Check.same("last", 0, canal.hoursUntilDetuned(4, 0));
        Check.same("first", "NoSuchElementException", Check.thrownBy(() -> canal.hoursUntilDetuned(0, 0)));
        Check.refusesEach(NO_PLACE, Bad.GATES, Canals::makeBusy, (c, gate) -> c.hoursUntilDetuned(gate, 0));
    }

    @Of({"or no such string", "`string`: the string, 0 or 1"})
    static void promise34StringsAre0And1() {
        ChordCanal canal = new ChordCanal();
        Canals.wearGateFourTo(canal, 10);
        canal.replaceString(4, 0);
        Check.same("1", 0, canal.hoursUntilDetuned(4, 1));
        Check.same("0", "NoSuchElementException", Check.thrownBy(() -> canal.hoursUntilDetuned(4, 0)));
        Check.refusesEach(NO_PLACE, Bad.STRINGS, Canals::makeBusy, (c, string) -> c.hoursUntilDetuned(1, string));
        for (int[] place : Bad.CROSSED) {
            Check.refuses("crossed", NO_PLACE, Canals::makeBusy, c -> c.hoursUntilDetuned(place[0], place[1]));
        }
    }

    @Of("0 if its wear is 10 or more now.")
    static void promise34Wear10AndMoreIs0Hours() {
        for (int wear : new int[] {10, 11, 19, 20}) {
            ChordCanal canal = new ChordCanal();
            Canals.wearGateFourTo(canal, wear);
            Check.same("wear " + wear, "0 0", canal.hoursUntilDetuned(4, 0) + " " + canal.hoursUntilDetuned(4, 1));
        }
    }

    @Of("Predicts after how many hours a string has the wear 10 for the first time.")
    static void promise34Wear9Needs1HourAndWear8Needs2() {
        for (int wear : new int[] {9, 8}) {
            ChordCanal canal = new ChordCanal();
            Canals.wearGateFourTo(canal, wear);
            Canals.addBarges(canal, 3, false);
            Check.same("wear " + wear, 10 - wear, canal.hoursUntilDetuned(4, 0));
            canal.advance(10 - wear);
            Check.same("then", "10 0", canal.wear(4, 0) + " " + canal.hoursUntilDetuned(4, 0));
        }
    }

    @Of("if it does not within 200 hours")
    static void promise34AStringThatIsNotWornEnoughIsRefused() {
        Check.refuses("no barge", NONE, c -> { }, c -> c.hoursUntilDetuned(0, 0));
        Check.refuses("8 barges and wear 0", NONE, c -> Canals.addBarges(c, 8, true), c -> c.hoursUntilDetuned(0, 1));
        Check.refuses("wear 9 in the end", NONE, c -> {
            Canals.wearGateFour(c, 7, 8);
            c.addBarge(7, 1, false);
        }, c -> c.hoursUntilDetuned(4, 0));
        Check.refuses("a new string", NONE, c -> {
            Canals.wearGateFour(c, 7, 9);
            c.replaceString(4, 1);
            c.addBarge(7, 1, false);
        }, c -> c.hoursUntilDetuned(4, 1));
    }

    @Of("if it does not within 200 hours")
    static void promise34AStringMayNeed87Hours() {
        ChordCanal canal = new ChordCanal();
        makeWaiting(canal, 2);
        Check.same("hours of both strings", "87 87", canal.hoursUntilDetuned(0, 0) + " "
                + canal.hoursUntilDetuned(0, 1));
        canal.replaceString(0, 0);
        Check.same("a new string has wear 8 in the end", "NoSuchElementException",
                Check.thrownBy(() -> canal.hoursUntilDetuned(0, 0)));
        canal.advance(86);
        Check.same("before the last hour", "9 1", canal.wear(0, 1) + " " + canal.hoursUntilDetuned(0, 1));
        canal.advance(1);
        Check.same("in the last hour", "10 0", canal.wear(0, 1) + " " + canal.hoursUntilDetuned(0, 1));
    }
}
