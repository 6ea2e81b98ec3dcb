import java.util.NoSuchElementException;

/** Promises 25 to 34: barges and predictions. */
public final class BargesTest {
    public static void main(String[] args) {
        promises25To32Barges();
        promise33HoursUntilLeaving();
        promise33Waiting();
        promise34HoursUntilDetuned();
        refused();
        Check.done();
    }

    private static void promises25To32Barges() {
        ChordCanal canal = new ChordCanal();
        Check.same("no barges", 0, canal.bargeCount());
        Check.same("barge 0", false, canal.exists(0));
        canal.addBarge(7, 3, true);
        canal.addBarge(2, 9, false);
        Check.same("count", 2, canal.bargeCount());
        Check.same("exist", "true true false false", canal.exists(0) + " " + canal.exists(1) + " " + canal.exists(2)
                + " " + canal.exists(-1));
        Check.same("far", "false false", canal.exists(Integer.MIN_VALUE) + " " + canal.exists(Integer.MAX_VALUE));
        Check.same("notes", "7 2", canal.noteOf(0) + " " + canal.noteOf(1));
        Check.same("draughts", "3 9", canal.draughtOf(0) + " " + canal.draughtOf(1));
        Check.same("directions", "true false", canal.isGoingDown(0) + " " + canal.isGoingDown(1));
        Check.same("reaches", "0 5", canal.reachOf(0) + " " + canal.reachOf(1));
        Check.same("can pass", "true false", canal.canPass(0) + " " + canal.canPass(1));
        Check.same("gates left", "5 5", canal.gatesLeft(0) + " " + canal.gatesLeft(1));
        canal.tune(4, 0, 10);
        canal.tune(4, 1, 5);
        Check.same("another chord", true, canal.canPass(1));
        canal.advance(1);
        Check.same("reaches", "1 4", canal.reachOf(0) + " " + canal.reachOf(1));
        Check.same("gates left", "4 4", canal.gatesLeft(0) + " " + canal.gatesLeft(1));
        canal.removeBarge(0);
        Check.same("the other one stays", "2 9 false 4", canal.noteOf(1) + " " + canal.draughtOf(1) + " "
                + canal.isGoingDown(1) + " " + canal.reachOf(1));
        Check.same("count", 1, canal.bargeCount());
        canal.tune(3, 0, 10);
        canal.tune(3, 1, 5);
        canal.advance(1);
        Check.same("three gates left", "3 3", canal.reachOf(1) + " " + canal.gatesLeft(1));
    }

    private static void promise33HoursUntilLeaving() {
        ChordCanal canal = Canals.withBarges(3);
        canal.addBarge(6, 1, true);
        String before = View.of(canal);
        Check.same("hours", "5 6 7", canal.hoursUntilLeaving(0) + " " + canal.hoursUntilLeaving(1) + " "
                + canal.hoursUntilLeaving(2));
        Check.refused("never", IllegalStateException.class, canal, () -> canal.hoursUntilLeaving(3));
        Check.same("a prediction changes nothing", before, View.of(canal));
        canal.advance(4);
        Check.same("one hour", 1, canal.hoursUntilLeaving(0));
        Check.same("it leaves then", 1, canal.advance(1));
        Check.refused("left", NoSuchElementException.class, canal, () -> canal.hoursUntilLeaving(0));
        Check.same("the others", "1 2", canal.hoursUntilLeaving(1) + " " + canal.hoursUntilLeaving(2));
    }

    /** A barge of draught 9 that waits until the inflow of 1 unit an hour has brought 45 units. */
    private static void promise33Waiting() {
        ChordCanal canal = new ChordCanal();
        canal.setInflow(0);
        canal.setDemand(0, 'm');
        canal.addBarge(7, 9, false);
        canal.advance(4);
        for (int id = 1; id <= 9; id++) {
            canal.addBarge(9, 1, true);
            canal.advance(1);
            canal.removeBarge(id);
        }
        Check.same("water", 6, canal.water(0));
        canal.setDemand(0, 'M');
        canal.tune(0, 0, 3);
        canal.tune(0, 1, 0);
        Check.refused("no inflow", IllegalStateException.class, canal, () -> canal.hoursUntilLeaving(0));
        canal.setInflow(1);
        Check.refused("no chord", IllegalStateException.class, canal, () -> canal.hoursUntilLeaving(0));
        canal.tune(0, 0, 0);
        canal.tune(0, 1, 4);
        Check.same("39 hours", 39, canal.hoursUntilLeaving(0));
        Check.same("38 hours", 0, canal.advance(38));
        Check.same("one more", 1, canal.advance(1));
    }

    private static void promise34HoursUntilDetuned() {
        ChordCanal canal = new ChordCanal();
        canal.tune(3, 0, 1);
        Check.refused("no barge", NoSuchElementException.class, canal, () -> canal.hoursUntilDetuned(4, 0));
        Canals.wearGateFour(canal, 7, 8);
        canal.addBarge(7, 1, false);
        Check.refused("wear 9 only", NoSuchElementException.class, canal, () -> canal.hoursUntilDetuned(4, 0));
        canal.addBarge(7, 1, false);
        Check.same("two passages", 2, canal.hoursUntilDetuned(4, 0));
        canal.replaceString(4, 1);
        Check.refused("a new string", NoSuchElementException.class, canal, () -> canal.hoursUntilDetuned(4, 1));
        canal.advance(1);
        Check.same("one passage", 1, canal.hoursUntilDetuned(4, 0));
        canal.advance(1);
        Check.same("wear 10", "10 0", canal.wear(4, 0) + " " + canal.hoursUntilDetuned(4, 0));
        canal.tune(4, 0, 0);
        canal.tune(4, 1, 5);
        canal.removeBarge(8);
        canal.addBarge(8, 1, false);
        canal.advance(1);
        Check.same("wear 11", "11 0", canal.wear(4, 0) + " " + canal.hoursUntilDetuned(4, 0));
    }

    private static void refused() {
        Class<?> due = NoSuchElementException.class;
        for (int bad : new int[] {Integer.MIN_VALUE, -1, 0, 2, Integer.MAX_VALUE}) {
            ChordCanal canal = Canals.withBarges(2);
            canal.removeBarge(0);
            Check.refused("noteOf", due, canal, () -> canal.noteOf(bad));
            Check.refused("draughtOf", due, canal, () -> canal.draughtOf(bad));
            Check.refused("isGoingDown", due, canal, () -> canal.isGoingDown(bad));
            Check.refused("reachOf", due, canal, () -> canal.reachOf(bad));
            Check.refused("canPass", due, canal, () -> canal.canPass(bad));
            Check.refused("gatesLeft", due, canal, () -> canal.gatesLeft(bad));
            Check.refused("hoursUntilLeaving", due, canal, () -> canal.hoursUntilLeaving(bad));
        }
        ChordCanal canal = Canals.withBarges(2);
        for (int bad : new int[] {Integer.MIN_VALUE, -1, 5, Integer.MAX_VALUE}) {
            Check.refused("gate", IndexOutOfBoundsException.class, canal, () -> canal.hoursUntilDetuned(bad, 0));
        }
        for (int bad : new int[] {Integer.MIN_VALUE, -1, 2, Integer.MAX_VALUE}) {
            Check.refused("string", IndexOutOfBoundsException.class, canal, () -> canal.hoursUntilDetuned(0, bad));
        }
    }
}
