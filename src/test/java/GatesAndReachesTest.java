import java.util.NoSuchElementException;

/** Promises 17 to 24. */
public final class GatesAndReachesTest {
    public static void main(String[] args) {
        promises17To20Gates();
        promise21GateByTraffic();
        promises22To24Reaches();
        refusedGates();
        refusedReaches();
        Check.done();
    }

    private static void promises17To20Gates() {
        ChordCanal canal = Canals.withBarges(2);
        canal.tune(2, 1, 3);
        canal.setDemand(2, 'm');
        canal.advance(3);
        Check.same("notes", "0 3 0 4", canal.note(2, 0) + " " + canal.note(2, 1) + " " + canal.note(1, 0) + " "
                + canal.note(1, 1));
        Check.same("wears", "2 2 1 0", canal.wear(0, 0) + " " + canal.wear(1, 1) + " " + canal.wear(2, 0) + " "
                + canal.wear(3, 1));
        Check.same("demands", "M m M", canal.demand(1) + " " + canal.demand(2) + " " + canal.demand(3));
        Check.same("passages", "2 2 1 0 0", canal.passages(0) + " " + canal.passages(1) + " " + canal.passages(2)
                + " " + canal.passages(3) + " " + canal.passages(4));
        canal.replaceString(0, 0);
        Check.same("the other string", "0 2", canal.wear(0, 0) + " " + canal.wear(0, 1));
        Check.same("passages stay", 2, canal.passages(0));
    }

    private static String ranks(ChordCanal canal) {
        StringBuilder text = new StringBuilder();
        for (int rank = 0; rank < 5; rank++) {
            text.append(canal.gateByTraffic(rank));
        }
        return text.toString();
    }

    private static void promise21GateByTraffic() {
        ChordCanal canal = new ChordCanal();
        Check.same("new", "01234", ranks(canal));
        canal.addBarge(7, 1, false);
        canal.advance(2);
        Check.same("by passages", "34012", ranks(canal));
        canal.advance(3);
        Check.same("all alike", "01234", ranks(canal));
        canal.replaceString(0, 1);
        canal.replaceString(3, 0);
        Check.same("the greater wear counts", "01234", ranks(canal));
        canal.replaceString(0, 0);
        canal.replaceString(3, 1);
        Check.same("by wear", "12403", ranks(canal));
        canal.addBarge(7, 1, true);
        canal.advance(1);
        Check.same("passages before wear", "01243", ranks(canal));
        for (int bad : new int[] {Integer.MIN_VALUE, -1, 5, Integer.MAX_VALUE}) {
            Check.refused("rank " + bad, NoSuchElementException.class, canal, () -> canal.gateByTraffic(bad));
        }
    }

    private static void promises22To24Reaches() {
        ChordCanal canal = Canals.withBarges(3);
        canal.addBarge(7, 1, false);
        canal.tune(1, 0, 1);
        canal.fill(5, 17);
        Check.same("water", "60 77", canal.water(0) + " " + canal.water(5));
        Check.same("barges", "3 0 1", canal.bargesIn(0) + " " + canal.bargesIn(3) + " " + canal.bargesIn(5));
        canal.advance(2);
        canal.addBarge(6, 1, true);
        Check.same("in reach 1", "2 0 1", canal.bargesIn(1) + " " + canal.bargeIn(1, 0) + " " + canal.bargeIn(1, 1));
        Check.same("in reach 0", "2 2 4", canal.bargesIn(0) + " " + canal.bargeIn(0, 0) + " " + canal.bargeIn(0, 1));
        Check.same("in reach 3", 3, canal.bargeIn(3, 0));
        Check.refused("position 2", NoSuchElementException.class, canal, () -> canal.bargeIn(1, 2));
        Check.refused("empty reach", NoSuchElementException.class, canal, () -> canal.bargeIn(5, 0));
        for (int bad : new int[] {Integer.MIN_VALUE, -1, 3, Integer.MAX_VALUE}) {
            Check.refused("position", NoSuchElementException.class, canal, () -> canal.bargeIn(0, bad));
        }
    }

    private static void refusedGates() {
        Class<?> due = IndexOutOfBoundsException.class;
        for (int bad : new int[] {Integer.MIN_VALUE, -1, 5, 6, Integer.MAX_VALUE}) {
            ChordCanal canal = new ChordCanal();
            Check.refused("note", due, canal, () -> canal.note(bad, 0));
            Check.refused("wear", due, canal, () -> canal.wear(bad, 1));
            Check.refused("demand", due, canal, () -> canal.demand(bad));
            Check.refused("passages", due, canal, () -> canal.passages(bad));
        }
        ChordCanal canal = new ChordCanal();
        for (int bad : new int[] {Integer.MIN_VALUE, -1, 2, Integer.MAX_VALUE}) {
            Check.refused("note", due, canal, () -> canal.note(1, bad));
            Check.refused("wear", due, canal, () -> canal.wear(1, bad));
        }
    }

    private static void refusedReaches() {
        ChordCanal canal = Canals.withBarges(1);
        Class<?> due = IndexOutOfBoundsException.class;
        for (int bad : new int[] {Integer.MIN_VALUE, -1, 6, Integer.MAX_VALUE}) {
            Check.refused("water", due, canal, () -> canal.water(bad));
            Check.refused("bargesIn", due, canal, () -> canal.bargesIn(bad));
            Check.refused("bargeIn", due, canal, () -> canal.bargeIn(bad, 0));
            Check.refused("bargeIn, both", due, canal, () -> canal.bargeIn(bad, -1));
        }
    }
}
