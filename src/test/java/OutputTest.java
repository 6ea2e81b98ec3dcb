/** Promises 46 to 48: the output text. */
public final class OutputTest {
    public static void main(String[] args) {
        promise46RenderGate();
        promise47RenderCanal();
        promise48OutputAt();
        Check.done();
    }

    private static void promise46RenderGate() {
        ChordCanal canal = new ChordCanal();
        Check.same("gate 2", "2:M0~0,4~0", Canals.output(canal, canal.renderGate(2)));
        canal.tune(3, 0, 1);
        Canals.wearGateFour(canal, 7, 9);
        canal.replaceString(4, 1);
        Canals.wearGateFour(canal, 7, 1);
        canal.setDemand(4, 'd');
        canal.tune(4, 1, 11);
        Check.same("gate 4", "4:d0~10,11~1", Canals.output(canal, canal.renderGate(4)));
        Check.same("the length", 12, canal.renderGate(4));
        for (int bad : new int[] {Integer.MIN_VALUE, -1, 5, Integer.MAX_VALUE}) {
            Check.refused("gate", IndexOutOfBoundsException.class, canal, () -> canal.renderGate(bad));
            Check.same("the text stays", "4:d0~10,11~1", Canals.output(canal, 12));
        }
    }

    private static void promise47RenderCanal() {
        ChordCanal canal = new ChordCanal();
        Check.same("new", "60|60|60|60|60|60", Canals.output(canal, canal.renderCanal()));
        for (int barge = 0; barge < 5; barge++) {
            canal.addBarge(7, 1, barge != 1);
        }
        Check.same("barges", "60****|60|60|60|60|60*", Canals.output(canal, canal.renderCanal()));
        canal.tune(3, 0, 1);
        canal.advance(2);
        Check.same("moved", "52**|66*|66*|60|54*|66", Canals.output(canal, canal.renderCanal()));
        ChordCanal dry = new ChordCanal();
        dry.tune(3, 0, 1);
        for (int passage = 0; passage < 10; passage++) {
            int barge = dry.addBarge(7, 1, false);
            dry.advance(1);
            dry.removeBarge(barge);
        }
        Check.same("no water", "80|60|60|60|0|90", Canals.output(dry, dry.renderCanal()));
    }

    private static void promise48OutputAt() {
        ChordCanal canal = Canals.withBarges(8);
        Check.refused("empty", IndexOutOfBoundsException.class, canal, () -> canal.outputAt(0));
        int length = canal.renderCanal();
        Check.same("length", 25, length);
        Check.same("first and last", "60", canal.outputAt(0) + "" + canal.outputAt(24));
        Check.refused("behind", IndexOutOfBoundsException.class, canal, () -> canal.outputAt(25));
        canal.renderGate(0);
        Check.same("replaced", '0', canal.outputAt(9));
        for (int bad : new int[] {Integer.MIN_VALUE, -1, 10, 24, Integer.MAX_VALUE}) {
            Check.refused("index", IndexOutOfBoundsException.class, canal, () -> canal.outputAt(bad));
        }
        canal.advance(1);
        Check.same("changes leave it", "0:M0~0,4~0", Canals.output(canal, 10));
    }
}
