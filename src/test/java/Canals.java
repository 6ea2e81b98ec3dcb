/** Ways to bring a canal into a state that several tests need. */
final class Canals {
    private Canals() {
    }

    /** Types a script and runs it; the answer, or the name of the exception. */
    static String run(ChordCanal canal, String script) {
        for (char character : script.toCharArray()) {
            canal.type(character);
        }
        int[] answer = new int[1];
        String thrown = Check.thrownBy(() -> answer[0] = canal.runScript());
        return thrown.equals("nothing") ? String.valueOf(answer[0]) : thrown;
    }

    static String output(ChordCanal canal, int length) {
        StringBuilder text = new StringBuilder();
        for (int index = 0; index < length; index++) {
            text.append(canal.outputAt(index));
        }
        return text.toString();
    }

    /** Lets barges with this note go up through gate 4 one after another; each is removed in reach 4. */
    static void wearGateFour(ChordCanal canal, int note, int passages) {
        for (int passage = 0; passage < passages; passage++) {
            int barge = canal.addBarge(note, 1, false);
            canal.advance(1);
            Check.same("passage through gate 4", 4, canal.reachOf(barge));
            canal.removeBarge(barge);
            canal.fill(4, 6);
        }
    }

    static ChordCanal withBarges(int count) {
        ChordCanal canal = new ChordCanal();
        for (int barge = 0; barge < count; barge++) {
            canal.addBarge(7, 1, true);
        }
        return canal;
    }
}
