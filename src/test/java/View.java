/** What the calls of a canal show, as a text. */
final class View {
    private View() {
    }

    /** The state, without changing it. */
    static String of(ChordCanal canal) {
        StringBuilder text = new StringBuilder();
        text.append("time ").append(canal.time()).append(" inflow ").append(canal.inflow());
        text.append(" flowed ").append(canal.inflowTotal()).append(" filled ").append(canal.filledTotal());
        text.append(" lost ").append(canal.lostTotal()).append(" left ").append(canal.leftTotal());
        text.append(" sum ").append(canal.totalWater()).append('=').append(canal.totalWaterByAccounts());
        text.append(" wear ").append(canal.meanWear()).append(canal.isConsistent() ? " ok" : " broken");
        for (int reach = 0; reach < 6; reach++) {
            text.append(" | ").append(canal.water(reach));
            for (int position = 0; position < canal.bargesIn(reach); position++) {
                text.append(' ').append(barge(canal, canal.bargeIn(reach, position)));
            }
        }
        for (int gate = 0; gate < 5; gate++) {
            text.append(" / ").append(gate(canal, gate)).append(" rank ").append(canal.gateByTraffic(gate));
        }
        return text.append(" of ").append(canal.bargeCount()).toString();
    }

    private static String barge(ChordCanal canal, int id) {
        return id + (canal.isGoingDown(id) ? "d" : "u") + canal.noteOf(id) + "," + canal.draughtOf(id)
                + "@" + canal.reachOf(id) + (canal.canPass(id) ? "!" : "") + canal.gatesLeft(id);
    }

    private static String gate(ChordCanal canal, int gate) {
        return canal.demand(gate) + " " + canal.note(gate, 0) + "~" + canal.wear(gate, 0) + ">" + canal.sound(gate, 0)
                + " " + canal.note(gate, 1) + "~" + canal.wear(gate, 1) + ">" + canal.sound(gate, 1)
                + " " + canal.passages(gate) + " opens " + canal.openingNotes(gate);
    }

    /** Ten calls that differ between most states and change nothing. */
    static String brief(ChordCanal canal) {
        return canal.time() + " " + canal.inflow() + " " + canal.meanWear() + " " + canal.bargeCount() + " "
                + canal.totalWater() + " " + canal.inflowTotal() + " " + canal.filledTotal() + " "
                + canal.lostTotal() + " " + canal.leftTotal() + " " + canal.gateByTraffic(0);
    }

    /** The state and all that undo does not cover; the canal is used up by it. */
    static String ofAll(ChordCanal canal) {
        StringBuilder text = new StringBuilder(of(canal)).append('\n');
        text.append("output ").append(output(canal)).append(", typed ").append(numberOf(() -> canal.type('x')));
        text.append(", error ").append(numberOf(canal::errorPosition));
        text.append(", failed ").append(numberOf(canal::failedCommand));
        text.append(", next ").append(numberOf(() -> canal.addBarge(0, 1, true)));
        for (String left = ""; !left.equals("NoSuchElementException") && !left.equals("0"); ) {
            left = numberOf(canal::undo);
            text.append("\nundone, left ").append(left).append(": ").append(sketch(canal));
        }
        return text.append("\nrestored ").append(numberOf(canal::restore)).append(": ").append(sketch(canal)).toString();
    }

    private static String output(ChordCanal canal) {
        StringBuilder text = new StringBuilder();
        while (Check.thrownBy(() -> canal.outputAt(text.length())).equals("nothing")) {
            text.append(canal.outputAt(text.length()));
        }
        return text.toString();
    }

    /** A few calls that differ between most states: a canal is promised nothing after 512 calls. */
    private static String sketch(ChordCanal canal) {
        return canal.time() + " " + canal.inflow() + " " + canal.meanWear() + " " + canal.bargeCount() + " "
                + canal.note(2, 0) + " " + canal.water(0) + " " + canal.water(3) + " " + canal.renderCanal();
    }

    interface NumberCall {
        int run();
    }

    /** The answer, or the name of the exception. */
    static String numberOf(NumberCall call) {
        int[] answer = new int[1];
        String thrown = Check.thrownBy(() -> answer[0] = call.run());
        return thrown.equals("nothing") ? String.valueOf(answer[0]) : thrown;
    }
}
