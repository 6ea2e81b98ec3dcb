import java.util.List;
import java.util.NoSuchElementException;

/** Promises 53 to 55: undo and the snapshot. */
public final class UndoTest {
    private interface Change {
        void of(ChordCanal canal);
    }

    private static final List<Change> CHANGES = List.of(
            canal -> canal.addBarge(7, 1, true),
            canal -> canal.tune(4, 1, 9),
            canal -> canal.advance(2),
            canal -> canal.replaceString(0, 0),
            canal -> canal.setDemand(3, 'a'),
            canal -> canal.setInflow(9),
            canal -> canal.fill(3, 20),
            canal -> canal.removeBarge(0),
            canal -> Canals.run(canal, "barge 1 1u;hour"),
            canal -> canal.advance(50),
            canal -> canal.setInflow(9),
            canal -> canal.tune(4, 1, 9));

    public static void main(String[] args) {
        promise53EachChange();
        promise53OnlyEight();
        promise53AfterUndo();
        promise53NoChanges();
        promise53Covers();
        promise54Save();
        promise55Restore();
        promises54And55DoNotCover();
        Check.done();
    }

    /** Undoes up to eight changes one after another and compares with a canal that had only those before them. */
    private static void promise53EachChange() {
        for (int changes = 1; changes <= CHANGES.size(); changes++) {
            int undoable = Math.min(changes, 8);
            for (int undone = 1; undone <= undoable; undone++) {
                ChordCanal canal = changed(changes);
                for (int left = undoable - 1; left >= undoable - undone; left--) {
                    Check.same("undo", left, canal.undo());
                }
                Check.same("state", View.of(changed(changes - undone)), View.of(canal));
                if (undone == undoable) {
                    Check.refused("nothing to undo", NoSuchElementException.class, canal, canal::undo);
                }
            }
        }
    }

    private static ChordCanal changed(int changes) {
        ChordCanal canal = new ChordCanal();
        CHANGES.subList(0, changes).forEach(change -> change.of(canal));
        return canal;
    }

    private static void promise53OnlyEight() {
        ChordCanal canal = new ChordCanal();
        for (int hour = 0; hour < 20; hour++) {
            canal.advance(1);
        }
        for (int left = 7; left >= 0; left--) {
            Check.same("left", left, canal.undo());
        }
        Check.same("time", 12, canal.time());
        Check.refused("ninth", NoSuchElementException.class, canal, canal::undo);
    }

    private static void promise53AfterUndo() {
        ChordCanal canal = new ChordCanal();
        for (int hours = 1; hours <= 10; hours++) {
            canal.advance(hours);
        }
        Check.same("first", 7, canal.undo());
        Check.same("second", 6, canal.undo());
        Check.same("third", 5, canal.undo());
        Check.same("time", 28, canal.time());
        canal.setInflow(4);
        Check.same("the new one", 5, canal.undo());
        Check.same("inflow", "2 28", canal.inflow() + " " + canal.time());
        canal.advance(1);
        canal.advance(1);
        canal.advance(1);
        canal.advance(1);
        Check.same("full again", 7, canal.undo());
        Check.same("time", 31, canal.time());
    }

    private static void promise53NoChanges() {
        ChordCanal canal = Canals.withBarges(1);
        Check.thrownBy(() -> canal.addBarge(12, 1, true));
        Check.thrownBy(() -> canal.tune(0, 0, 12));
        Check.thrownBy(() -> canal.replaceString(5, 0));
        Check.thrownBy(() -> canal.setDemand(0, 'x'));
        Check.thrownBy(() -> canal.setInflow(10));
        Check.thrownBy(() -> canal.fill(0, 31));
        Check.thrownBy(() -> canal.removeBarge(1));
        Check.thrownBy(() -> canal.advance(101));
        Canals.run(canal, "hour x");
        Canals.run(canal, "hour;leave 9");
        canal.renderCanal();
        canal.hoursUntilLeaving(0);
        canal.save();
        canal.type('h');
        Check.same("only one change", 0, canal.undo());
        Check.same("no barge", 0, canal.bargeCount());
        canal.setInflow(2);
        canal.setDemand(0, 'M');
        canal.tune(0, 0, 0);
        Check.same("changes that change nothing", 2, canal.undo());
    }

    private static void promise53Covers() {
        ChordCanal canal = new ChordCanal();
        canal.advance(1);
        canal.addBarge(7, 1, true);
        canal.undo();
        Check.same("the id of the next barge", 0, canal.addBarge(6, 1, false));
        canal.type('h');
        canal.renderGate(0);
        Canals.run(canal, "x");
        Canals.run(canal, "leave 9");
        canal.type('h');
        canal.type('o');
        canal.undo();
        Check.same("not the script buffer", 3, canal.type('u'));
        Check.same("not the error position", 1, canal.errorPosition());
        Check.same("not the failed command", 0, canal.failedCommand());
        Check.same("not the output text", "0:M0~0,4~0", Canals.output(canal, 10));
        Check.same("not what is to undo", 0, canal.undo());
        canal.save();
        canal.advance(3);
        canal.undo();
        canal.advance(5);
        canal.restore();
        Check.same("not the snapshot", 0, canal.time());
    }

    private static void promise54Save() {
        ChordCanal canal = Canals.withBarges(3);
        String before = View.of(canal);
        Check.same("barges", 3, canal.save());
        Check.same("changes nothing", before, View.of(canal));
        Check.same("undo is still there", 2, canal.undo());
        canal.removeBarge(0);
        Check.same("one barge", 1, canal.save());
        canal.removeBarge(1);
        Check.same("no barge", 1, canal.restore());
        Check.same("replaced", true, canal.exists(1));
        Check.same("the first snapshot is gone", false, canal.exists(0));
    }

    private static void promise55Restore() {
        ChordCanal canal = new ChordCanal();
        Check.refused("no snapshot", IllegalStateException.class, canal, canal::restore);
        for (Change change : CHANGES) {
            change.of(canal);
        }
        Check.thrownBy(canal::restore);
        Check.same("a refused one leaves undo", 7, canal.undo());
        canal.addBarge(3, 3, true);
        String saved = View.of(canal);
        canal.save();
        for (int again = 0; again < 2; again++) {
            canal.addBarge(7, 1, true);
            canal.advance(30);
            canal.setDemand(0, 'd');
            canal.fill(1, 1);
            Check.same("barges", 2, canal.restore());
            Check.same("restored", saved, View.of(canal));
            Check.refused("nothing to undo", NoSuchElementException.class, canal, canal::undo);
        }
        Check.same("the id of the next barge", 3, canal.addBarge(1, 1, true));
        Check.same("undo goes on", 0, canal.undo());
        Check.same("undone", saved, View.of(canal));
    }

    private static void promises54And55DoNotCover() {
        ChordCanal canal = new ChordCanal();
        canal.save();
        Canals.run(canal, "x");
        Canals.run(canal, "leave 9");
        canal.renderGate(1);
        canal.type('h');
        canal.restore();
        Check.same("script buffer", 2, canal.type('o'));
        Check.same("error position", 0, canal.errorPosition());
        Check.same("failed command", 0, canal.failedCommand());
        Check.same("output text", "1:M0~0,4~0", Canals.output(canal, 10));
    }
}
