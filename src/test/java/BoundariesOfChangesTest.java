import java.util.NoSuchElementException;

/** Promises 1 to 8, sentence by sentence: a new canal, and the changes but for advance. */
public final class BoundariesOfChangesTest {
    private static final String FIRST_LISTED = "If several exceptions apply, the one that is listed first is thrown.";
    private static final Class<?> NO_PLACE = IndexOutOfBoundsException.class;
    private static final Class<?> BAD = IllegalArgumentException.class;

    public static void main(String[] args) {
        Sentences.run(BoundariesOfChangesTest.class);
    }

    @Of("Creates a canal without barges at time 0.")
    static void promise1NoBargesAtTime0() {
        ChordCanal canal = new ChordCanal();
        Check.same("barges", 0, canal.bargeCount());
        Check.same("barge 0", false, canal.exists(0));
        Check.same("time", 0, canal.time());
    }

    @Of("Creates a canal without barges at time 0.")
    static void promise1NothingHasHappened() {
        ChordCanal canal = new ChordCanal();
        Check.same("flowed in", 0, canal.inflowTotal());
        Check.same("filled in", 0, canal.filledTotal());
        Check.same("lost", 0, canal.lostTotal());
        Check.same("left", 0, canal.leftTotal());
        for (int gate = 0; gate < 5; gate++) {
            Check.same("passages", 0, canal.passages(gate));
        }
    }

    @Of("initially 60, and at most 3 barges")
    static void promise1EachReachHolds60Units() {
        ChordCanal canal = new ChordCanal();
        for (int reach = 0; reach <= 5; reach++) {
            Check.same("reach " + reach, "60 0", canal.water(reach) + " " + canal.bargesIn(reach));
        }
    }

    @Of("A gate has a demanded kind of chord, initially major, two strings, each with a note, initially 0 and 4")
    static void promise1GatesDemandMajorAndHaveTheNotes0And4() {
        ChordCanal canal = new ChordCanal();
        for (int gate = 0; gate <= 4; gate++) {
            Check.same("gate " + gate, "M 0 4", canal.demand(gate) + " " + canal.note(gate, 0) + " "
                    + canal.note(gate, 1));
        }
    }

    @Of("for each string a wear from 0 to 20, initially 0.")
    static void promise1NoStringIsWorn() {
        ChordCanal canal = new ChordCanal();
        for (int gate = 0; gate <= 4; gate++) {
            Check.same("gate " + gate, "0 0", canal.wear(gate, 0) + " " + canal.wear(gate, 1));
        }
    }

    @Of("The inflow is from 0 to 9 units, initially 2.")
    static void promise1TheInflowIs2() {
        Check.same("inflow", 2, new ChordCanal().inflow());
    }

    @Of("the note is not between 0 and 11")
    static void promise2NotesFrom0To11() {
        ChordCanal canal = new ChordCanal();
        Check.same("lowest", 0, canal.noteOf(canal.addBarge(0, 1, true)));
        Check.same("highest", 11, canal.noteOf(canal.addBarge(11, 1, true)));
        Check.refusesEach(BAD, Bad.NOTES, Canals::makeBusy, (c, note) -> c.addBarge(note, 1, true));
    }

    @Of("or the draught is not between 1 and 9")
    static void promise2DraughtsFrom1To9() {
        ChordCanal canal = new ChordCanal();
        Check.same("least", 1, canal.draughtOf(canal.addBarge(0, 1, true)));
        Check.same("greatest", 9, canal.draughtOf(canal.addBarge(0, 9, true)));
        int[] draughts = {0, 10, -1, Integer.MIN_VALUE, Integer.MAX_VALUE};
        Check.refusesEach(BAD, draughts, Canals::makeBusy, (c, draught) -> c.addBarge(7, draught, true));
    }

    @Of("A barge has a note, a draught from 1 to 9, and a direction, which is down or up.")
    static void promise2KeepsEachNoteDraughtAndDirection() {
        for (int note = 0; note <= 11; note++) {
            ChordCanal canal = new ChordCanal();
            int draught = note % 9 + 1;
            canal.addBarge(note, draught, note % 2 == 0);
            Check.same("barge", note + " " + draught + " " + (note % 2 == 0),
                    canal.noteOf(0) + " " + canal.draughtOf(0) + " " + canal.isGoingDown(0));
        }
    }

    @Of("if there are 8 barges")
    static void promise2TheNinthBargeIsRefused() {
        Check.same("the eighth is not", 7, Canals.withBarges(7).addBarge(0, 1, false));
        Check.refuses("the ninth", IllegalStateException.class, c -> Canals.addBarges(c, 8, true),
                c -> c.addBarge(0, 1, false));
    }

    @Of("At most 8 barges exist.")
    static void promise2ThereIsRoomAgainAfterARemoval() {
        ChordCanal canal = Canals.withBarges(8);
        canal.removeBarge(7);
        Check.same("id", 8, canal.addBarge(0, 1, true));
        Check.same("barges", 8, canal.bargeCount());
        Check.same("full again", "IllegalStateException", Check.thrownBy(() -> canal.addBarge(0, 1, true)));
    }

    @Of("At most 8 barges exist.")
    static void promise2ThereIsRoomAgainWhenABargeHasLeft() {
        ChordCanal canal = Canals.withBarges(8);
        canal.advance(4);
        Check.same("none has left", "IllegalStateException", Check.thrownBy(() -> canal.addBarge(0, 1, true)));
        canal.advance(1);
        Check.same("one has", 8, canal.addBarge(0, 1, true));
    }

    @Of(FIRST_LISTED)
    static void promise2BadNumbersComeBeforeTooManyBarges() {
        Check.refuses("note", BAD, c -> Canals.addBarges(c, 8, true), c -> c.addBarge(12, 1, true));
        Check.refuses("draught", BAD, c -> Canals.addBarges(c, 8, true), c -> c.addBarge(0, 10, true));
    }

    @Of("the first one has the id 0")
    static void promise2TheFirstIdIs0() {
        Check.same("id", 0, new ChordCanal().addBarge(3, 3, false));
    }

    @Of("each further one has the id of the one before plus 1.")
    static void promise2NoIdIsGivenTwice() {
        ChordCanal canal = Canals.withBarges(1);
        canal.removeBarge(0);
        Check.same("after a removal", 1, canal.addBarge(7, 1, true));
        canal.advance(5);
        Check.same("after one has left", "0 2", canal.bargeCount() + " " + canal.addBarge(7, 1, false));
    }

    @Of("each further one has the id of the one before plus 1.")
    static void promise2ARefusedCallTakesNoId() {
        ChordCanal canal = Canals.withBarges(1);
        Check.thrownBy(() -> canal.addBarge(12, 1, true));
        Check.thrownBy(() -> canal.addBarge(0, 0, true));
        Check.same("id", 1, canal.addBarge(0, 1, true));
        Canals.addBarges(canal, 6, true);
        Check.thrownBy(() -> canal.addBarge(0, 1, true));
        canal.removeBarge(0);
        Check.same("id after a full canal", 8, canal.addBarge(0, 1, true));
    }

    @Of("It begins in reach 0 if it goes down and in reach 5 if it goes up.")
    static void promise2BeginsAtItsEnd() {
        ChordCanal canal = new ChordCanal();
        Check.same("down", 0, canal.reachOf(canal.addBarge(7, 1, true)));
        Check.same("up", 5, canal.reachOf(canal.addBarge(7, 1, false)));
    }

    @Of("`isGoingDown`: true for a barge that goes down, false for one that goes up")
    static void promise2TrueIsDownAndFalseIsUp() {
        ChordCanal canal = new ChordCanal();
        canal.addBarge(7, 1, true);
        canal.addBarge(7, 1, false);
        Check.same("directions", "true false", canal.isGoingDown(0) + " " + canal.isGoingDown(1));
    }

    @Of("there is no such limit for the reaches 0 and 5.")
    static void promise2AllEightMayBeginInOneReach() {
        Check.same("reach 0", 8, Canals.withBarges(8).bargesIn(0));
        ChordCanal canal = new ChordCanal();
        Canals.addBarges(canal, 8, false);
        Check.same("reach 5", 8, canal.bargesIn(5));
    }

    @Of("Returns the id of the barge.")
    static void promise2TheAnswerIsTheId() {
        ChordCanal canal = Canals.withBarges(2);
        int barge = canal.addBarge(9, 8, false);
        Check.same("barge", "2 9 8", barge + " " + canal.noteOf(barge) + " " + canal.draughtOf(barge));
    }

    @Of("if there is no such gate")
    static void promise3GatesFrom0To4() {
        ChordCanal canal = new ChordCanal();
        canal.tune(0, 0, 9);
        canal.tune(4, 0, 8);
        Check.same("tuned", "9 0 0 0 8", canal.note(0, 0) + " " + canal.note(1, 0) + " " + canal.note(2, 0) + " "
                + canal.note(3, 0) + " " + canal.note(4, 0));
        Check.refusesEach(NO_PLACE, Bad.GATES, Canals::makeBusy, (c, gate) -> c.tune(gate, 0, 3));
    }

    @Of({"or no such string", "`string`: the string, 0 or 1"})
    static void promise3StringsAre0And1() {
        ChordCanal canal = new ChordCanal();
        canal.tune(2, 0, 9);
        canal.tune(3, 1, 8);
        Check.same("tuned", "9 4 0 8", canal.note(2, 0) + " " + canal.note(2, 1) + " " + canal.note(3, 0) + " "
                + canal.note(3, 1));
        Check.refusesEach(NO_PLACE, Bad.STRINGS, Canals::makeBusy, (c, string) -> c.tune(1, string, 3));
        for (int[] place : Bad.CROSSED) {
            Check.refuses("crossed", NO_PLACE, Canals::makeBusy, c -> c.tune(place[0], place[1], 3));
        }
    }

    @Of("if the note is not between 0 and 11")
    static void promise3NotesFrom0To11() {
        ChordCanal canal = new ChordCanal();
        canal.tune(1, 1, 0);
        Check.same("lowest", 0, canal.note(1, 1));
        canal.tune(1, 1, 11);
        Check.same("highest", 11, canal.note(1, 1));
        Check.refusesEach(BAD, Bad.NOTES, Canals::makeBusy, (c, note) -> c.tune(1, 1, note));
    }

    @Of({"A note is a number from 0 to 11.", "Tunes a string to a note."})
    static void promise3EachNoteFrom0To11IsKept() {
        for (int note = 0; note <= 11; note++) {
            ChordCanal canal = new ChordCanal();
            canal.tune(1, 0, note);
            canal.tune(2, 1, 11 - note);
            Check.same("notes", note + " " + (11 - note), canal.note(1, 0) + " " + canal.note(2, 1));
        }
    }

    @Of(FIRST_LISTED)
    static void promise3ThePlaceComesBeforeTheNote() {
        Check.refuses("gate", NO_PLACE, Canals::makeBusy, c -> c.tune(5, 0, 12));
        Check.refuses("string", NO_PLACE, Canals::makeBusy, c -> c.tune(0, 2, -1));
    }

    @Of("Its wear stays.")
    static void promise3TheWearStays() {
        for (int wear : new int[] {0, 9, 10, 20}) {
            ChordCanal canal = new ChordCanal();
            Canals.wearGateFourTo(canal, wear);
            canal.tune(4, 0, 6);
            canal.tune(4, 1, 4);
            Check.same("wear", wear + " " + wear, canal.wear(4, 0) + " " + canal.wear(4, 1));
        }
    }

    @Of("Returns the previous note.")
    static void promise3TheAnswerIsThePreviousNote() {
        ChordCanal canal = new ChordCanal();
        Canals.wearGateFourTo(canal, 10);
        Check.same("the note, not the sound", 4, canal.tune(4, 1, 11));
        Check.same("11", 11, canal.tune(4, 1, 11));
        Check.same("the same again", 11, canal.tune(4, 1, 0));
        Check.same("0", 0, canal.tune(4, 1, 1));
    }

    @Of("if there is no such gate")
    static void promise4GatesFrom0To4() {
        ChordCanal canal = Canals.withBarges(1);
        canal.advance(5);
        Check.same("first and last", "1 1", canal.replaceString(0, 0) + " " + canal.replaceString(4, 0));
        Check.same("those between", "1 1 1", canal.wear(1, 0) + " " + canal.wear(2, 0) + " " + canal.wear(3, 0));
        Check.refusesEach(NO_PLACE, Bad.GATES, Canals::makeBusy, (c, gate) -> c.replaceString(gate, 0));
    }

    @Of({"or no such string", "`string`: the string, 0 or 1"})
    static void promise4StringsAre0And1() {
        ChordCanal canal = Canals.withBarges(1);
        canal.advance(2);
        Check.same("replaced", "1 1", canal.replaceString(0, 0) + " " + canal.replaceString(1, 1));
        Check.same("wear", "0 1 1 0", canal.wear(0, 0) + " " + canal.wear(0, 1) + " " + canal.wear(1, 0) + " "
                + canal.wear(1, 1));
        Check.refusesEach(NO_PLACE, Bad.STRINGS, Canals::makeBusy, (c, string) -> c.replaceString(1, string));
        for (int[] place : Bad.CROSSED) {
            Check.refuses("crossed", NO_PLACE, Canals::makeBusy, c -> c.replaceString(place[0], place[1]));
        }
    }

    @Of("Replaces a string by a new one with the same note: its wear becomes 0.")
    static void promise4TheNewStringHasTheSameNoteAndNoWear() {
        for (int wear : new int[] {0, 1, 9, 10, 20}) {
            ChordCanal canal = new ChordCanal();
            Canals.wearGateFourTo(canal, wear);
            canal.tune(4, 1, 11);
            canal.replaceString(4, 1);
            Check.same("after wear " + wear, "0 11 11", canal.wear(4, 1) + " " + canal.note(4, 1) + " "
                    + canal.sound(4, 1));
            Check.same("the other one", wear, canal.wear(4, 0));
        }
    }

    @Of("Returns the wear before the call.")
    static void promise4TheAnswerIsTheWearBefore() {
        for (int wear : new int[] {0, 1, 9, 10, 20}) {
            ChordCanal canal = new ChordCanal();
            Canals.wearGateFourTo(canal, wear);
            Check.same("first", wear, canal.replaceString(4, 0));
            Check.same("again", 0, canal.replaceString(4, 0));
        }
    }

    @Of("if there is no such gate")
    static void promise5GatesFrom0To4() {
        ChordCanal canal = new ChordCanal();
        canal.setDemand(0, 'a');
        canal.setDemand(4, 'd');
        Check.same("demands", "aMMMd", "" + canal.demand(0) + canal.demand(1) + canal.demand(2) + canal.demand(3)
                + canal.demand(4));
        Check.refusesEach(NO_PLACE, Bad.GATES, Canals::makeBusy, (c, gate) -> c.setDemand(gate, 'm'));
    }

    @Of("if there is no such kind")
    static void promise5OtherKindsAreRefused() {
        int[] kinds = {'L', 'N', 'l', 'n', 'c', 'e', '`', 'b', 'D', 'A', '-', ' ', 0, 256 + 'M', Character.MAX_VALUE};
        Check.refusesEach(BAD, kinds, Canals::makeBusy, (c, kind) -> c.setDemand(1, (char) kind));
    }

    @Of("`kind`: 'M' for major, 'm' for minor, 'd' for diminished, 'a' for augmented")
    static void promise5EachKindIsTaken() {
        ChordCanal canal = new ChordCanal();
        for (char kind : "mdaM".toCharArray()) {
            canal.setDemand(3, kind);
            Check.same("kind", kind, canal.demand(3));
        }
        canal.tune(3, 1, 3);
        Check.same("major", 8, canal.lowestOpeningNote(3));
        canal.setDemand(3, 'm');
        Check.same("minor", 7, canal.lowestOpeningNote(3));
        canal.setDemand(3, 'd');
        Check.same("diminished", 6, canal.lowestOpeningNote(3));
        canal.tune(3, 1, 4);
        canal.setDemand(3, 'a');
        Check.same("augmented", 8, canal.lowestOpeningNote(3));
    }

    @Of("Returns the previous kind.")
    static void promise5TheAnswerIsThePreviousKind() {
        ChordCanal canal = new ChordCanal();
        Check.same("initial", 'M', canal.setDemand(2, 'a'));
        Check.same("a", 'a', canal.setDemand(2, 'a'));
        Check.same("the same again", 'a', canal.setDemand(2, 'd'));
        Check.same("d", 'd', canal.setDemand(2, 'm'));
        Check.same("m", 'm', canal.setDemand(2, 'M'));
    }

    @Of(FIRST_LISTED)
    static void promise5TheGateComesBeforeTheKind() {
        Check.refuses("gate 5", NO_PLACE, Canals::makeBusy, c -> c.setDemand(5, 'x'));
        Check.refuses("gate -1", NO_PLACE, Canals::makeBusy, c -> c.setDemand(-1, (char) 0));
    }

    @Of("if the number of units is not between 0 and 9")
    static void promise6InflowsFrom0To9() {
        ChordCanal canal = new ChordCanal();
        canal.setInflow(0);
        Check.same("least", 0, canal.inflow());
        canal.setInflow(9);
        Check.same("greatest", 9, canal.inflow());
        int[] inflows = {-1, 10, Integer.MIN_VALUE, Integer.MAX_VALUE};
        Check.refusesEach(BAD, inflows, Canals::makeBusy, (c, units) -> c.setInflow(units));
    }

    @Of("Returns the previous inflow.")
    static void promise6TheAnswerIsThePreviousInflow() {
        ChordCanal canal = new ChordCanal();
        Check.same("initial", 2, canal.setInflow(9));
        Check.same("9", 9, canal.setInflow(0));
        Check.same("0", 0, canal.setInflow(0));
        Check.same("the same again", 0, canal.setInflow(1));
    }

    @Of("if there is no such reach")
    static void promise7ReachesFrom0To5() {
        ChordCanal canal = new ChordCanal();
        Check.same("first and last", "61 62", canal.fill(0, 1) + " " + canal.fill(5, 2));
        Check.same("picture", "61|60|60|60|60|62", Canals.picture(canal));
        Check.refusesEach(NO_PLACE, Bad.REACHES, Canals::makeBusy, (c, reach) -> c.fill(reach, 1));
    }

    @Of("if the number of units is not between 1 and 90")
    static void promise7UnitsFrom1To90() {
        ChordCanal canal = new ChordCanal();
        Canals.drain(canal);
        Check.same("the most, into an empty reach", 90, canal.fill(0, 90));
        Check.same("the least", 61, canal.fill(1, 1));
        int[] units = {0, 91, -1, Integer.MIN_VALUE, Integer.MAX_VALUE};
        Check.refusesEach(BAD, units, Canals::makeBusy, (c, number) -> c.fill(0, number));
        Check.refusesEach(BAD, units, Canals::drain, (c, number) -> c.fill(0, number));
    }

    @Of("if the reach would contain more than 90 units")
    static void promise7AReachHoldsNoMoreThan90Units() {
        Check.same("90", 90, new ChordCanal().fill(3, 30));
        Class<?> due = UnsupportedOperationException.class;
        Check.refuses("91", due, c -> { }, c -> c.fill(3, 31));
        Check.refuses("91 again", due, c -> c.fill(3, 30), c -> c.fill(3, 1));
        Check.refuses("150", due, c -> { }, c -> c.fill(3, 90));
        Check.refuses("0 and 90 and 1", due, c -> {
            Canals.drain(c);
            c.fill(0, 1);
        }, c -> c.fill(0, 90));
    }

    @Of("A reach holds water from 0 to 90 units")
    static void promise7EachReachHolds90Units() {
        for (int reach = 0; reach <= 5; reach++) {
            ChordCanal canal = new ChordCanal();
            canal.fill(reach, 29);
            Check.same("reach " + reach, 90, canal.fill(reach, 1));
            int full = reach;
            Check.same("full", "UnsupportedOperationException", Check.thrownBy(() -> canal.fill(full, 1)));
        }
    }

    @Of(FIRST_LISTED)
    static void promise7TheReachComesBeforeTheUnitsAndTheseBeforeTheWater() {
        Check.refuses("reach and units", NO_PLACE, Canals::makeBusy, c -> c.fill(6, 0));
        Check.refuses("reach and many units", NO_PLACE, Canals::makeBusy, c -> c.fill(-1, 91));
        Check.refuses("too many units for any reach", BAD, Canals::makeBusy, c -> c.fill(5, 91));
        Check.refuses("into a full reach", BAD, c -> c.fill(5, 30), c -> c.fill(5, 0));
    }

    @Of("Returns the water in the reach after the call.")
    static void promise7TheAnswerIsTheWaterAfterwards() {
        ChordCanal canal = new ChordCanal();
        Check.same("first", 67, canal.fill(2, 7));
        Check.same("second", 90, canal.fill(2, 23));
        Check.same("water", 90, canal.water(2));
    }

    @Of("if there is no such barge")
    static void promise8BargesThatDoNotExistAreRefused() {
        Check.refusesEach(NoSuchElementException.class, Canals.GONE, Canals::makeThreeGone,
                (c, barge) -> c.removeBarge(barge));
        Check.refuses("no barge at all", NoSuchElementException.class, c -> { }, c -> c.removeBarge(0));
    }

    @Of("Removes a barge.")
    static void promise8RemovesThisOneAlone() {
        for (int gone = 0; gone < 8; gone++) {
            ChordCanal canal = new ChordCanal();
            for (int barge = 0; barge < 8; barge++) {
                canal.addBarge(barge, barge + 1, barge % 2 == 0);
            }
            canal.removeBarge(gone);
            for (int barge = 0; barge < 8; barge++) {
                Check.same("exists", barge != gone, canal.exists(barge));
                if (barge != gone) {
                    Check.same("barge", barge + " " + (barge + 1) + " " + (barge % 2 == 0), canal.noteOf(barge) + " "
                            + canal.draughtOf(barge) + " " + canal.isGoingDown(barge));
                }
            }
        }
    }

    @Of("Returns the number of barges.")
    static void promise8TheAnswerCountsFrom7DownTo0() {
        ChordCanal canal = Canals.withBarges(8);
        for (int barge = 0; barge < 8; barge++) {
            Check.same("after barge " + barge, 7 - barge, canal.removeBarge(barge));
        }
    }
}
