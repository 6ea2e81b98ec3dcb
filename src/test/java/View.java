/** All that the calls of a canal show without changing it, as a text. */
final class View {
    private View() {
    }

    static String of(ChordCanal canal) {
        StringBuilder text = new StringBuilder();
        text.append("time ").append(canal.time()).append(" inflow ").append(canal.inflow());
        text.append(" flowed ").append(canal.inflowTotal()).append(" filled ").append(canal.filledTotal());
        text.append(" lost ").append(canal.lostTotal()).append(" left ").append(canal.leftTotal());
        text.append(" sum ").append(canal.totalWater()).append('=').append(canal.totalWaterByAccounts());
        text.append(" wear ").append(canal.meanWear()).append(canal.isConsistent() ? " ok" : " broken");
        for (int reach = 0; reach < 6; reach++) {
            text.append(" | ").append(canal.water(reach));
            for (int position = 0; position < canal.bargesIn(reach); position++) {
                text.append(' ').append(barge(canal, canal.bargeIn(reach, position)));
            }
        }
        for (int gate = 0; gate < 5; gate++) {
            text.append(" / ").append(gate(canal, gate)).append(" rank ").append(canal.gateByTraffic(gate));
        }
        return text.append(" of ").append(canal.bargeCount()).toString();
    }

    private static String barge(ChordCanal canal, int id) {
        return id + (canal.isGoingDown(id) ? "d" : "u") + canal.noteOf(id) + "," + canal.draughtOf(id)
                + "@" + canal.reachOf(id) + (canal.canPass(id) ? "!" : "") + canal.gatesLeft(id);
    }

    private static String gate(ChordCanal canal, int gate) {
        return canal.demand(gate) + " " + canal.note(gate, 0) + "~" + canal.wear(gate, 0) + ">" + canal.sound(gate, 0)
                + " " + canal.note(gate, 1) + "~" + canal.wear(gate, 1) + ">" + canal.sound(gate, 1)
                + " " + canal.passages(gate) + " opens " + canal.openingNotes(gate);
    }
}
