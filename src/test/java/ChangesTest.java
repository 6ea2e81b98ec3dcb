/** Promises 1 to 9: a new object and the changes. */
public final class ChangesTest {
    private static final int[] FAR = {Integer.MIN_VALUE, -1, Integer.MAX_VALUE};

    public static void main(String[] args) {
        promise1NewObject();
        promise2AddBarge();
        promise2AddBargeRefused();
        promise3Tune();
        promise4ReplaceString();
        promise5SetDemand();
        promise6SetInflow();
        promise7Fill();
        promise8RemoveBarge();
        promise9Advance();
        Check.done();
    }

    private static void promise1NewObject() {
        ChordCanal canal = new ChordCanal();
        StringBuilder due = new StringBuilder("time 0 inflow 2 flowed 0 filled 0 lost 0 left 0 sum 360=360 wear 0.0 ok");
        due.append(" | 60".repeat(6));
        for (int gate = 0; gate < 5; gate++) {
            due.append(" / M 0~0>0 4~0>4 0 opens 1 rank ").append(gate);
        }
        Check.same("new", due.append(" of 0").toString(), View.of(canal));
        Check.same("new undo", "NoSuchElementException", Check.thrownBy(canal::undo));
        Check.same("new restore", "IllegalStateException", Check.thrownBy(canal::restore));
        Check.same("new errorPosition", "NoSuchElementException", Check.thrownBy(canal::errorPosition));
        Check.same("new failedCommand", "NoSuchElementException", Check.thrownBy(canal::failedCommand));
        Check.same("new outputAt", "IndexOutOfBoundsException", Check.thrownBy(() -> canal.outputAt(0)));
        Check.same("new script buffer", 1, canal.type('h'));
    }

    private static void promise2AddBarge() {
        ChordCanal canal = new ChordCanal();
        Check.same("first id", 0, canal.addBarge(0, 1, true));
        Check.same("second id", 1, canal.addBarge(11, 9, false));
        Check.same("third id", 2, canal.addBarge(5, 4, true));
        Check.same("reach of down", 0, canal.reachOf(0));
        Check.same("reach of up", 5, canal.reachOf(1));
        Check.same("note", 11, canal.noteOf(1));
        Check.same("draught", 9, canal.draughtOf(1));
        Check.same("up", false, canal.isGoingDown(1));
        Check.same("down", true, canal.isGoingDown(2));
        Check.same("count after removal", 2, canal.removeBarge(2));
        Check.same("an id is never given twice", 3, canal.addBarge(5, 4, true));
        Check.same("count", 3, canal.bargeCount());
    }

    private static void promise2AddBargeRefused() {
        for (int barges = 0; barges <= 8; barges++) {
            ChordCanal canal = Canals.withBarges(barges);
            for (int bad : FAR) {
                Check.refused("note " + bad, IllegalArgumentException.class, canal, () -> canal.addBarge(bad, 1, true));
                Check.refused("draught " + bad, IllegalArgumentException.class, canal,
                        () -> canal.addBarge(1, bad, true));
            }
            Check.refused("note 12", IllegalArgumentException.class, canal, () -> canal.addBarge(12, 1, true));
            Check.refused("draught 0", IllegalArgumentException.class, canal, () -> canal.addBarge(0, 0, true));
            Check.refused("draught 10", IllegalArgumentException.class, canal, () -> canal.addBarge(0, 10, false));
            if (barges < 8) {
                Check.same("id", barges, canal.addBarge(barges, barges + 1, barges % 2 == 0));
            }
        }
        ChordCanal canal = Canals.withBarges(8);
        Check.refused("ninth barge", IllegalStateException.class, canal, () -> canal.addBarge(0, 1, true));
        canal.removeBarge(3);
        Check.same("room again", 8, canal.addBarge(0, 1, true));
    }

    private static void promise3Tune() {
        ChordCanal canal = new ChordCanal();
        Check.same("first tuning", 4, canal.tune(2, 1, 11));
        Check.same("tuned", 11, canal.note(2, 1));
        Check.same("second tuning", 11, canal.tune(2, 1, 0));
        Check.same("other string", 0, canal.tune(2, 0, 5));
        Check.same("other gate", 4, canal.note(3, 1));
        canal.addBarge(7, 1, true);
        canal.advance(1);
        canal.tune(0, 0, 9);
        Check.same("wear stays", 1, canal.wear(0, 0));
        for (int bad : FAR) {
            Check.refused("gate", IndexOutOfBoundsException.class, canal, () -> canal.tune(bad, 0, 0));
            Check.refused("string", IndexOutOfBoundsException.class, canal, () -> canal.tune(0, bad, 0));
            Check.refused("note", IllegalArgumentException.class, canal, () -> canal.tune(0, 0, bad));
            Check.refused("string and note", IndexOutOfBoundsException.class, canal, () -> canal.tune(0, bad, bad));
        }
        Check.refused("gate 5", IndexOutOfBoundsException.class, canal, () -> canal.tune(5, 0, 0));
        Check.refused("string 2", IndexOutOfBoundsException.class, canal, () -> canal.tune(0, 2, 0));
        Check.refused("note 12", IllegalArgumentException.class, canal, () -> canal.tune(4, 1, 12));
        Check.refused("gate 5 and note 12", IndexOutOfBoundsException.class, canal, () -> canal.tune(5, 0, 12));
    }

    private static void promise4ReplaceString() {
        ChordCanal canal = new ChordCanal();
        canal.tune(3, 0, 1);
        Canals.wearGateFour(canal, 7, 10);
        Check.same("worn sound", 5, canal.sound(4, 1));
        Check.same("replaced", 10, canal.replaceString(4, 1));
        Check.same("wear", 0, canal.wear(4, 1));
        Check.same("note", 4, canal.note(4, 1));
        Check.same("sound", 4, canal.sound(4, 1));
        Check.same("other string", 10, canal.wear(4, 0));
        Check.same("replaced again", 0, canal.replaceString(4, 1));
        for (int bad : FAR) {
            Check.refused("gate", IndexOutOfBoundsException.class, canal, () -> canal.replaceString(bad, 0));
            Check.refused("string", IndexOutOfBoundsException.class, canal, () -> canal.replaceString(0, bad));
        }
        Check.refused("gate 5", IndexOutOfBoundsException.class, canal, () -> canal.replaceString(5, 0));
        Check.refused("string 2", IndexOutOfBoundsException.class, canal, () -> canal.replaceString(3, 2));
    }

    private static void promise5SetDemand() {
        ChordCanal canal = new ChordCanal();
        Check.same("M", 'M', canal.setDemand(1, 'm'));
        Check.same("m", 'm', canal.setDemand(1, 'd'));
        Check.same("d", 'd', canal.setDemand(1, 'a'));
        Check.same("a", 'a', canal.setDemand(1, 'M'));
        Check.same("the same", 'M', canal.setDemand(1, 'M'));
        canal.setDemand(4, 'a');
        Check.same("gate 4", 'a', canal.demand(4));
        Check.same("gate 3", 'M', canal.demand(3));
        for (char bad : new char[] {0, '-', 'D', 'A', 'x', 256 + 'M', Character.MAX_VALUE}) {
            Check.refused("kind", IllegalArgumentException.class, canal, () -> canal.setDemand(1, bad));
            Check.refused("gate and kind", IndexOutOfBoundsException.class, canal, () -> canal.setDemand(5, bad));
        }
        for (int bad : FAR) {
            Check.refused("gate", IndexOutOfBoundsException.class, canal, () -> canal.setDemand(bad, 'M'));
        }
        Check.refused("gate 5", IndexOutOfBoundsException.class, canal, () -> canal.setDemand(5, 'M'));
    }

    private static void promise6SetInflow() {
        ChordCanal canal = new ChordCanal();
        Check.same("initial", 2, canal.setInflow(9));
        canal.advance(2);
        Check.same("water", 78, canal.water(0));
        Check.same("nine", 9, canal.setInflow(0));
        canal.advance(2);
        Check.same("no inflow", 78, canal.water(0));
        Check.same("zero", 0, canal.setInflow(5));
        for (int bad : FAR) {
            Check.refused("inflow", IllegalArgumentException.class, canal, () -> canal.setInflow(bad));
        }
        Check.refused("inflow 10", IllegalArgumentException.class, canal, () -> canal.setInflow(10));
    }

    private static void promise7Fill() {
        ChordCanal canal = new ChordCanal();
        Check.same("fill 1", 61, canal.fill(0, 1));
        Check.same("fill to 90", 90, canal.fill(5, 30));
        Check.same("fill 29", 89, canal.fill(3, 29));
        Check.same("sum", 420, canal.totalWater());
        Check.same("filled", 60, canal.filledTotal());
        Check.same("lost", 0, canal.lostTotal());
        Check.refused("one too many", UnsupportedOperationException.class, canal, () -> canal.fill(5, 1));
        Check.refused("two too many", UnsupportedOperationException.class, canal, () -> canal.fill(3, 2));
        Check.refused("90", UnsupportedOperationException.class, canal, () -> canal.fill(1, 90));
        for (int bad : FAR) {
            Check.refused("reach", IndexOutOfBoundsException.class, canal, () -> canal.fill(bad, 1));
            Check.refused("units", IllegalArgumentException.class, canal, () -> canal.fill(5, bad));
            Check.refused("both", IndexOutOfBoundsException.class, canal, () -> canal.fill(bad, bad));
        }
        Check.refused("units 0", IllegalArgumentException.class, canal, () -> canal.fill(5, 0));
        Check.refused("units 91", IllegalArgumentException.class, canal, () -> canal.fill(5, 91));
        Check.refused("reach 6", IndexOutOfBoundsException.class, canal, () -> canal.fill(6, 0));
        ChordCanal empty = drained();
        Check.same("reach 4 is empty", 0, empty.water(4));
        Check.same("fill 90", 90, empty.fill(4, 90));
    }

    /** Ten passages of 6 units out of reach 4. */
    private static ChordCanal drained() {
        ChordCanal canal = new ChordCanal();
        canal.tune(3, 0, 1);
        for (int passage = 0; passage < 10; passage++) {
            int barge = canal.addBarge(7, 1, false);
            canal.advance(1);
            canal.removeBarge(barge);
        }
        return canal;
    }

    private static void promise8RemoveBarge() {
        ChordCanal canal = Canals.withBarges(4);
        Check.same("middle", 3, canal.removeBarge(1));
        Check.same("gone", false, canal.exists(1));
        Check.same("order", "0 2 3", canal.bargeIn(0, 0) + " " + canal.bargeIn(0, 1) + " " + canal.bargeIn(0, 2));
        Check.refused("again", java.util.NoSuchElementException.class, canal, () -> canal.removeBarge(1));
        Check.refused("never", java.util.NoSuchElementException.class, canal, () -> canal.removeBarge(4));
        for (int bad : FAR) {
            Check.refused("far", java.util.NoSuchElementException.class, canal, () -> canal.removeBarge(bad));
        }
        Check.same("first", 2, canal.removeBarge(0));
        Check.same("last", 1, canal.removeBarge(3));
        Check.same("only", 0, canal.removeBarge(2));
        Check.same("does not leave", 0, canal.leftTotal());
        canal.addBarge(7, 1, true);
        canal.advance(5);
        Check.refused("left", java.util.NoSuchElementException.class, canal, () -> canal.removeBarge(4));
    }

    private static void promise9Advance() {
        ChordCanal canal = Canals.withBarges(3);
        canal.addBarge(6, 1, false);
        Check.same("four hours", 0, canal.advance(4));
        Check.same("time", 4, canal.time());
        Check.same("the first leaves", 1, canal.advance(1));
        Check.same("two more", 2, canal.advance(100));
        Check.same("time", 105, canal.time());
        Check.same("one stays", 1, canal.bargeCount());
        for (int bad : FAR) {
            Check.refused("hours", IllegalArgumentException.class, canal, () -> canal.advance(bad));
        }
        Check.refused("0 hours", IllegalArgumentException.class, canal, () -> canal.advance(0));
        Check.refused("101 hours", IllegalArgumentException.class, canal, () -> canal.advance(101));
    }
}
