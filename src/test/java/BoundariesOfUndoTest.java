import java.util.ArrayList;
import java.util.List;
import java.util.NoSuchElementException;

/** Promises 53 to 55 with the terms "Changes" and "Exceptions", sentence by sentence: undo and the snapshot. */
public final class BoundariesOfUndoTest {
    private static final String CHANGE = "A change is a call of addBarge, tune, replaceString, setDemand, setInflow,"
            + " fill, removeBarge, advance or runScript";
    private static final String NORMALLY = "that returns normally, even if the state is the same afterwards.";
    private static final String EIGHT = "The latest 8 changes can be undone, the latest one first.";
    private static final String COVERED = "Undo and the snapshot cover everything except the script buffer, the error"
            + " position, the index of the failed command, the output text and the snapshot itself;";
    private static final String NEXT_ID = "they cover the id of the next barge.";

    /** Each changes the state of a canal that was made busy, where an 'h' has been typed. */
    private static final List<Check.Use> CHANGES = List.of(
            canal -> canal.addBarge(7, 1, true),
            canal -> canal.tune(2, 0, 0),
            canal -> canal.replaceString(0, 0),
            canal -> canal.setDemand(3, 'a'),
            canal -> canal.setInflow(9),
            canal -> canal.fill(3, 20),
            canal -> canal.removeBarge(0),
            canal -> canal.advance(4),
            canal -> Canals.run(canal, "our;tune 2 0 0;flow 8;barge 1 1u;hour 9"));

    public static void main(String[] args) {
        Sentences.run(BoundariesOfUndoTest.class);
    }

    @Of(CHANGE)
    static void promise53EachKindOfChangeIsUndone() {
        for (Check.Use change : CHANGES) {
            ChordCanal canal = new ChordCanal();
            Canals.makeBusy(canal);
            String before = View.of(canal);
            change.of(canal);
            Check.same("it is a change", false, before.equals(View.of(canal)));
            Check.same("six others", 6, canal.undo());
            Check.same("state", before, View.of(canal));
        }
    }

    @Of(NORMALLY)
    static void promise53AChangeThatChangesNothingCounts() {
        ChordCanal canal = new ChordCanal();
        canal.tune(0, 0, 0);
        canal.replaceString(0, 0);
        canal.setDemand(0, 'M');
        canal.setInflow(2);
        Canals.run(canal, "flow 2");
        Check.same("state", View.of(new ChordCanal()), View.of(canal));
        for (int left = 4; left >= 0; left--) {
            Check.same("left", left, canal.undo());
        }
    }

    @Of(NORMALLY)
    static void promise53ARefusedCallIsNoChange() {
        ChordCanal canal = Canals.withBarges(8);
        Check.same("a full canal", "IllegalStateException", Check.thrownBy(() -> canal.addBarge(7, 1, true)));
        Check.thrownBy(() -> canal.tune(0, 0, 12));
        Check.thrownBy(() -> canal.replaceString(5, 0));
        Check.thrownBy(() -> canal.setDemand(0, 'x'));
        Check.thrownBy(() -> canal.setInflow(10));
        Check.thrownBy(() -> canal.fill(0, 31));
        Check.thrownBy(() -> canal.removeBarge(8));
        Check.thrownBy(() -> canal.advance(101));
        Canals.run(canal, "hour;");
        Canals.run(canal, "hour;leave 9");
        for (int left = 7; left >= 0; left--) {
            Check.same("left", left + " " + left, canal.undo() + " " + canal.bargeCount());
        }
    }

    @Of(CHANGE)
    static void promise53OtherCallsAreNoChanges() {
        ChordCanal canal = Canals.withBarges(1);
        View.of(canal);
        canal.renderCanal();
        canal.renderGate(0);
        canal.hoursUntilLeaving(0);
        canal.save();
        canal.type('h');
        Check.same("one change", 0, canal.undo());
        Check.same("undone", 0, canal.bargeCount());
    }

    @Of(CHANGE)
    static void promise53AScriptIsOneChange() {
        ChordCanal canal = new ChordCanal();
        Canals.run(canal, "hour;hour;hour;hour;hour;hour;hour;hour;hour;hour");
        Check.same("one change", 0, canal.undo());
        Check.same("all ten hours", 0, canal.time());
    }

    @Of(EIGHT)
    static void promise53EightOfEightAndOfNine() {
        for (int changes = 7; changes <= 10; changes++) {
            ChordCanal canal = new ChordCanal();
            for (int hour = 0; hour < changes; hour++) {
                canal.advance(1);
            }
            int undone = Math.min(changes, 8);
            for (int left = undone - 1; left >= 0; left--) {
                Check.same("left", left, canal.undo());
            }
            Check.same("time", changes - undone, canal.time());
            Check.same("no more", "NoSuchElementException", Check.thrownBy(canal::undo));
        }
    }

    @Of(EIGHT)
    static void promise53TheLatestOneComesFirst() {
        ChordCanal canal = new ChordCanal();
        List<String> before = new ArrayList<>();
        for (int hours = 1; hours <= 10; hours++) {
            before.add(Canals.picture(canal) + canal.time());
            canal.advance(hours);
        }
        for (int change = 9; change >= 2; change--) {
            canal.undo();
            Check.same("state", before.get(change), Canals.picture(canal) + canal.time());
        }
    }

    @Of("Undoes the latest change that has not been undone.")
    static void promise53AfterAnUndoTheNextOneGoesFurtherBack() {
        ChordCanal canal = new ChordCanal();
        canal.advance(1);
        canal.advance(2);
        canal.advance(4);
        canal.undo();
        Check.same("4 undone", 3, canal.time());
        canal.advance(8);
        Check.same("one new change", 11, canal.time());
        Check.same("8 undone", "2 3", canal.undo() + " " + canal.time());
        canal.undo();
        Check.same("2 undone", 1, canal.time());
        canal.undo();
        Check.same("all undone", 0, canal.time());
    }

    @Of("Returns the number of changes that can still be undone.")
    static void promise53From7DownTo0() {
        ChordCanal canal = Canals.withBarges(8);
        for (int left = 7; left >= 0; left--) {
            Check.same("left", left, canal.undo());
        }
    }

    @Of("Returns the number of changes that can still be undone.")
    static void promise53ANewChangeFillsTheEightAgain() {
        ChordCanal canal = new ChordCanal();
        for (int hour = 0; hour < 12; hour++) {
            canal.advance(1);
        }
        canal.undo();
        canal.undo();
        canal.advance(1);
        Check.same("seven were kept", "6 10", canal.undo() + " " + canal.time());
        canal.advance(1);
        canal.advance(1);
        canal.advance(1);
        Check.same("no more than eight", "7 12", canal.undo() + " " + canal.time());
    }

    @Of(EIGHT)
    static void promise53EightNewChangesAfterSomeWereUndone() {
        for (int undone = 1; undone <= 8; undone++) {
            ChordCanal canal = new ChordCanal();
            for (int hour = 0; hour < 9; hour++) {
                canal.advance(1);
            }
            for (int call = 0; call < undone; call++) {
                canal.undo();
            }
            for (int hour = 0; hour < 9; hour++) {
                canal.advance(2);
            }
            for (int left = 7; left >= 0; left--) {
                Check.same("left and time", left + " " + (11 - undone + 2 * left), canal.undo() + " "
                        + canal.time());
            }
        }
    }

    @Of("if there is nothing to undo")
    static void promise53NothingToUndo() {
        Class<?> due = NoSuchElementException.class;
        Check.refuses("new", due, c -> { }, ChordCanal::undo);
        Check.refuses("undone already", due, c -> {
            c.advance(1);
            c.undo();
        }, ChordCanal::undo);
        Check.refuses("only refused calls", due, c -> Check.thrownBy(() -> c.advance(0)), ChordCanal::undo);
        Check.refuses("restored", due, c -> {
            Canals.makeBusy(c);
            c.restore();
        }, ChordCanal::undo);
    }

    @Of(COVERED)
    static void promise53CoversNoTexts() {
        ChordCanal canal = new ChordCanal();
        canal.advance(1);
        canal.renderGate(3);
        Canals.run(canal, "hour;x");
        Canals.run(canal, "leave 0");
        canal.type('h');
        canal.undo();
        Check.same("buffer", 2, canal.type('o'));
        Check.same("error position", 5, canal.errorPosition());
        Check.same("failed command", 0, canal.failedCommand());
        Check.same("output", "3:M0~0,4~0", Canals.output(canal, 10));
    }

    @Of(COVERED)
    static void promise53DoesNotBringBackAScript() {
        ChordCanal canal = new ChordCanal();
        Canals.run(canal, "hour");
        canal.undo();
        Check.same("buffer", 1, canal.type('h'));
    }

    @Of(COVERED)
    static void promise53TheSnapshotStaysWhenOlderChangesAreUndone() {
        ChordCanal canal = new ChordCanal();
        canal.advance(3);
        canal.save();
        canal.undo();
        Check.same("undone", 0, canal.time());
        canal.restore();
        Check.same("restored", 3, canal.time());
    }

    @Of(NEXT_ID)
    static void promise53TheIdIsGivenAgain() {
        ChordCanal canal = Canals.withBarges(3);
        canal.undo();
        Check.same("after one undo", 2, canal.addBarge(7, 1, true));
        canal.undo();
        canal.undo();
        canal.undo();
        Check.same("after all", 0, canal.addBarge(7, 1, true));
    }

    @Of("A method that throws an exception changes nothing unless its description says otherwise.")
    static void promise53ARefusedCallLeavesWhatCanBeUndone() {
        ChordCanal canal = Canals.withBarges(8);
        for (int call = 0; call < 20; call++) {
            Check.thrownBy(() -> canal.addBarge(7, 1, true));
            Check.thrownBy(() -> canal.advance(0));
        }
        Check.same("all eight", "7 7", canal.undo() + " " + canal.bargeCount());
    }

    @Of("Takes a snapshot, which replaces an earlier one.")
    static void promise54TheEarlierOneIsGone() {
        ChordCanal canal = new ChordCanal();
        canal.save();
        canal.advance(1);
        canal.save();
        canal.advance(1);
        canal.restore();
        Check.same("time", 1, canal.time());
    }

    @Of("Takes a snapshot, which replaces an earlier one.")
    static void promise54ASnapshotOfANewCanal() {
        ChordCanal canal = new ChordCanal();
        canal.save();
        Canals.addBarges(canal, 8, true);
        canal.tune(1, 1, 5);
        canal.setDemand(4, 'd');
        canal.advance(50);
        canal.restore();
        Check.same("state", View.of(new ChordCanal()), View.of(canal));
    }

    @Of("Returns the number of barges.")
    static void promise54From0To8() {
        Check.same("none", 0, new ChordCanal().save());
        Check.same("eight", 8, Canals.withBarges(8).save());
        ChordCanal canal = new ChordCanal();
        Canals.makeThreeGone(canal);
        Check.same("without those that are gone", 2, canal.save());
    }

    @Of("Takes a snapshot")
    static void promise54ChangesNothingElse() {
        ChordCanal saved = new ChordCanal();
        ChordCanal twin = new ChordCanal();
        Canals.makeBusy(saved);
        Canals.makeBusy(twin);
        saved.save();
        String due = View.ofAll(twin);
        String got = View.ofAll(saved);
        Check.same("all but the snapshot", due.substring(0, due.indexOf("restored")),
                got.substring(0, got.indexOf("restored")));
    }

    @Of("if there is no snapshot")
    static void promise55NoSnapshot() {
        Class<?> due = IllegalStateException.class;
        Check.refuses("new", due, c -> { }, ChordCanal::restore);
        Check.refuses("changes to undo", due, c -> Canals.addBarges(c, 3, true), ChordCanal::restore);
    }

    @Of("Restores the snapshot, which is kept.")
    static void promise55TheSnapshotMayBeRestoredAgain() {
        ChordCanal canal = new ChordCanal();
        Canals.makeBusy(canal);
        canal.save();
        String due = View.of(canal);
        String brief = View.brief(canal);
        for (int again = 0; again < 2; again++) {
            for (Check.Use change : CHANGES.subList(0, 8)) {
                change.of(canal);
            }
            Check.same("changed", false, brief.equals(View.brief(canal)));
            canal.restore();
            Check.same("restored", due, View.of(canal));
        }
    }

    @Of("Afterwards there is nothing to undo.")
    static void promise55NothingToUndoAndThenOnlyTheNewChanges() {
        ChordCanal canal = Canals.withBarges(8);
        canal.save();
        canal.restore();
        Check.same("nothing", "NoSuchElementException", Check.thrownBy(canal::undo));
        Check.same("the eight barges stay", 8, canal.bargeCount());
        canal.advance(1);
        Check.same("one new change", 0, canal.undo());
        Check.same("nothing again", "NoSuchElementException", Check.thrownBy(canal::undo));
    }

    @Of("Returns the number of barges.")
    static void promise55From0To8() {
        ChordCanal canal = new ChordCanal();
        canal.save();
        Canals.addBarges(canal, 8, true);
        Check.same("none", 0, canal.restore());
        Canals.addBarges(canal, 8, true);
        canal.save();
        canal.advance(100);
        Check.same("eight", 8, canal.restore());
    }

    @Of(COVERED)
    static void promise55CoversNoTexts() {
        ChordCanal canal = new ChordCanal();
        canal.save();
        canal.renderGate(3);
        Canals.run(canal, "hour;x");
        Canals.run(canal, "leave 0");
        canal.type('h');
        canal.restore();
        Check.same("buffer", 2, canal.type('o'));
        Check.same("error position", 5, canal.errorPosition());
        Check.same("failed command", 0, canal.failedCommand());
        Check.same("output", "3:M0~0,4~0", Canals.output(canal, 10));
    }

    @Of(NEXT_ID)
    static void promise55TheIdIsGivenAgain() {
        ChordCanal canal = Canals.withBarges(3);
        canal.removeBarge(2);
        canal.save();
        Canals.addBarges(canal, 3, true);
        canal.restore();
        Check.same("id", 3, canal.addBarge(7, 1, true));
    }
}
