/** Promises 35 to 45: totals and checks. */
public final class TotalsTest {
    public static void main(String[] args) {
        promises35To42Totals();
        promise43MeanWear();
        promise44PassageShare();
        promise45IsConsistent();
        Check.done();
    }

    private static void promises35To42Totals() {
        ChordCanal canal = Canals.withBarges(2);
        canal.addBarge(7, 1, false);
        canal.setInflow(9);
        canal.advance(3);
        Check.same("time", 3, canal.time());
        Check.same("inflow", 9, canal.inflow());
        Check.same("inflowTotal", 27, canal.inflowTotal());
        canal.fill(5, 4);
        canal.fill(5, 3);
        Check.same("filledTotal", 7, canal.filledTotal());
        Check.same("totalWater", "394 394", canal.totalWater() + " " + canal.totalWaterByAccounts());
        canal.advance(10);
        Check.same("inflowTotal with the lost ones", 117, canal.inflowTotal());
        Check.same("leftTotal", 3, canal.leftTotal());
        int sum = 0;
        for (int reach = 0; reach < 6; reach++) {
            sum += canal.water(reach);
        }
        Check.same("totalWater", sum, canal.totalWater());
        Check.same("totalWaterByAccounts", sum, canal.totalWaterByAccounts());
        Check.same("lostTotal", 360 + 117 + 7 - sum, canal.lostTotal());
        Check.same("some are lost", true, canal.lostTotal() > 0);
        canal.addBarge(7, 1, true);
        canal.removeBarge(3);
        Check.same("a removed barge has not left", 3, canal.leftTotal());
    }

    private static void promise43MeanWear() {
        ChordCanal canal = Canals.withBarges(1);
        canal.advance(1);
        Check.same("two strings", 2.0 / 10.0, canal.meanWear());
        canal.replaceString(0, 1);
        Check.same("one string", 0.1, canal.meanWear());
        canal.advance(1);
        Check.same("three", 3.0 / 10.0, canal.meanWear());
        canal.advance(3);
        Check.same("nine", 0.9, canal.meanWear());
    }

    private static void promise44PassageShare() {
        ChordCanal canal = Canals.withBarges(2);
        Check.refused("no passages", ArithmeticException.class, canal, () -> canal.passageShare(4));
        for (int bad : new int[] {Integer.MIN_VALUE, -1, 5, Integer.MAX_VALUE}) {
            Check.refused("no gate, no passages", IndexOutOfBoundsException.class, canal,
                    () -> canal.passageShare(bad));
        }
        canal.advance(1);
        Check.same("all", "1.0 0.0", canal.passageShare(0) + " " + canal.passageShare(1));
        canal.advance(1);
        Check.same("two of three", 2f / 3f, canal.passageShare(0));
        Check.same("one of three", 1f / 3f, canal.passageShare(1));
        Check.same("none", 0f, canal.passageShare(4));
        for (int bad : new int[] {Integer.MIN_VALUE, -1, 5, Integer.MAX_VALUE}) {
            Check.refused("no gate", IndexOutOfBoundsException.class, canal, () -> canal.passageShare(bad));
        }
    }

    /** No run of calls leads to a state that is not consistent; the model in RandomRunsTest asks often. */
    private static void promise45IsConsistent() {
        ChordCanal canal = Canals.withBarges(8);
        Check.same("new", true, canal.isConsistent());
        canal.tune(1, 0, 1);
        canal.setInflow(9);
        for (int hour = 0; hour < 30; hour++) {
            canal.advance(1);
            Check.same("hour " + hour, true, canal.isConsistent());
            canal.tune(2, 0, hour % 12);
        }
        canal.fill(5, 30);
        Check.same("full", true, canal.isConsistent());
    }
}
