/** Ways to bring a canal into a state that several tests need. */
final class Canals {
    /** Barges that do not exist after makeThreeGone: left, removed, left at the other end, and never there. */
    static final int[] GONE = {0, 1, 2, 5, -1, Integer.MIN_VALUE, Integer.MAX_VALUE};

    private Canals() {
    }

    static void type(ChordCanal canal, String script) {
        for (char character : script.toCharArray()) {
            canal.type(character);
        }
    }

    /** Types a script and runs it; the answer, or the name of the exception. */
    static String run(ChordCanal canal, String script) {
        type(canal, script);
        return View.numberOf(canal::runScript);
    }

    static String output(ChordCanal canal, int length) {
        StringBuilder text = new StringBuilder();
        for (int index = 0; index < length; index++) {
            text.append(canal.outputAt(index));
        }
        return text.toString();
    }

    static String picture(ChordCanal canal) {
        return output(canal, canal.renderCanal());
    }

    /** Lets barges with this note go up through gate 4 one after another; each is removed in reach 4. */
    static void wearGateFour(ChordCanal canal, int note, int passages) {
        for (int passage = 0; passage < passages; passage++) {
            int barge = canal.addBarge(note, 1, false);
            canal.advance(1);
            Check.same("passage through gate 4", 4, canal.reachOf(barge));
            canal.removeBarge(barge);
            canal.fill(4, 6);
        }
    }

    /** Brings both strings of gate 4 to this wear; the sounds are 0 and 4 before wear 10, and 1 and 5 from there. */
    static void wearGateFourTo(ChordCanal canal, int wear) {
        wearGateFour(canal, 7, Math.min(wear, 10));
        wearGateFour(canal, 8, Math.max(wear - 10, 0));
        Check.same("wear of gate 4", wear + " " + wear, canal.wear(4, 0) + " " + canal.wear(4, 1));
    }

    static ChordCanal withBarges(int count) {
        ChordCanal canal = new ChordCanal();
        addBarges(canal, count, true);
        return canal;
    }

    /** They have the note 7, which passes gates that are as in a new canal, and the draught 1. */
    static void addBarges(ChordCanal canal, int count, boolean down) {
        for (int barge = 0; barge < count; barge++) {
            canal.addBarge(7, 1, down);
        }
    }

    /** Makes all that a call could change unlike what it is in a new canal; six changes can be undone. */
    static void makeBusy(ChordCanal canal) {
        run(canal, "hour;h");
        run(canal, "hour;leave 9");
        canal.addBarge(7, 2, true);
        canal.addBarge(7, 1, false);
        canal.advance(2);
        canal.tune(2, 0, 5);
        canal.save();
        canal.setInflow(3);
        canal.addBarge(2, 9, true);
        canal.renderGate(1);
        canal.type('h');
    }

    /** For a new canal: barge 0 leaves, barge 1 is removed, barge 2 leaves at the other end; 3 and 4 exist. */
    static void makeThreeGone(ChordCanal canal) {
        canal.addBarge(7, 1, true);
        canal.addBarge(7, 1, true);
        canal.removeBarge(1);
        canal.advance(5);
        canal.addBarge(7, 1, false);
        canal.advance(5);
        canal.addBarge(6, 2, true);
        canal.addBarge(7, 3, false);
        canal.advance(1);
    }

    /** For a new canal: ten barges go down all of it, and all strings are replaced. The next id is 10. */
    static void drain(ChordCanal canal) {
        canal.setInflow(0);
        for (int barge = 0; barge < 10; barge++) {
            canal.addBarge(7, 1, true);
            canal.advance(5);
        }
        for (int gate = 0; gate < 5; gate++) {
            canal.replaceString(gate, 0);
            canal.replaceString(gate, 1);
        }
        Check.same("drained", "0|60|60|60|60|90", picture(canal));
    }

    /** For a canal without barges: so many go up to reach 1 and are removed there; each takes 6 units out of it. */
    static void lowerReachOne(ChordCanal canal, int passages) {
        int before = canal.water(1);
        canal.tune(0, 0, 1);
        for (int passage = 0; passage < passages; passage++) {
            int barge = canal.addBarge(7, 1, false);
            canal.advance(4);
            canal.removeBarge(barge);
        }
        canal.tune(0, 0, 0);
        Check.same("lowered", before - 6 * passages, canal.water(1));
    }
}
