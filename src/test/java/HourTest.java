/** Promise 9 with the terms Passing and One hour, and promise 31. */
public final class HourTest {
    public static void main(String[] args) {
        waterOfPassages();
        waterIsLimited();
        chordsOfGates();
        roomInReach();
        noLimitAtTheEnds();
        draughtAndWater();
        inflowComesFirst();
        oneBargeAGate();
        orderOfIds();
        earlierBargeMakesRoom();
        wearEndsAtTwenty();
        inflowIsLost();
        Check.done();
    }

    private static String water(ChordCanal canal) {
        return Canals.output(canal, canal.renderCanal());
    }

    private static void waterOfPassages() {
        ChordCanal canal = new ChordCanal();
        canal.addBarge(7, 1, true);
        canal.addBarge(7, 1, false);
        canal.advance(1);
        Check.same("first hour", "56|66*|60|60|54*|66", water(canal));
        canal.advance(1);
        Check.same("second hour", "58|60|66*|54*|60|66", water(canal));
        canal.advance(1);
        Check.same("the gate between is for one of them", "60|60|60|60**|60|66", water(canal));
        canal.advance(1);
        Check.same("fourth hour", "62|60|54*|60|66*|66", water(canal));
        Check.same("down leaves", 1, canal.advance(1));
        Check.same("fifth hour", "64|54*|60|60|60|72", water(canal));
        Check.same("up leaves", 1, canal.advance(1));
        Check.same("sixth hour", "60|60|60|60|60|72", water(canal));
        Check.same("nothing is lost", 0, canal.lostTotal());
        Check.same("wear", "2 2 2", canal.wear(0, 0) + " " + canal.wear(2, 0) + " " + canal.wear(4, 1));
    }

    private static void waterIsLimited() {
        ChordCanal canal = new ChordCanal();
        canal.tune(3, 0, 1);
        for (int passage = 0; passage < 9; passage++) {
            int barge = canal.addBarge(7, 1, false);
            canal.advance(1);
            canal.removeBarge(barge);
        }
        Check.same("the lower one is full", "78|60|60|60|6|90", water(canal));
        Check.same("the others are lost", 24, canal.lostTotal());
        canal.fill(4, 5);
        canal.addBarge(7, 1, false);
        canal.advance(1);
        canal.addBarge(8, 1, false);
        Check.same("5 units are enough", true, canal.canPass(10));
        canal.advance(1);
        Check.same("at most what is there", "82|60|60|60|0**|90", water(canal));
        Check.same("lost", 35, canal.lostTotal());
        canal.addBarge(8, 1, false);
        Check.same("no water", false, canal.canPass(11));
    }

    private static void chordsOfGates() {
        ChordCanal canal = new ChordCanal();
        for (int note = 0; note < 8; note++) {
            canal.addBarge(note, 1, true);
            Check.same("major " + note, note == 7, canal.canPass(note));
        }
        canal.setDemand(0, 'd');
        canal.tune(0, 1, 3);
        for (int note = 0; note < 8; note++) {
            Check.same("diminished " + note, note == 6, canal.canPass(note));
        }
        canal.advance(1);
        Check.same("only this one", 1, canal.reachOf(6) + canal.reachOf(7));
        Check.same("the next gate", false, canal.canPass(6));
        canal.tune(1, 0, 2);
        canal.tune(1, 1, 10);
        canal.setDemand(1, 'a');
        Check.same("augmented", true, canal.canPass(6));
    }

    private static void roomInReach() {
        ChordCanal canal = Canals.withBarges(5);
        canal.tune(1, 0, 1);
        canal.advance(2);
        Check.same("room for a third", true, canal.canPass(2));
        canal.advance(10);
        Check.same("three", "66**|78***|60|60|60|60", water(canal));
        Check.same("no room", false, canal.canPass(3));
        canal.removeBarge(0);
        Check.same("room", true, canal.canPass(3));
    }

    private static void noLimitAtTheEnds() {
        for (boolean down : new boolean[] {true, false}) {
            ChordCanal canal = new ChordCanal();
            for (int barge = 0; barge < 7; barge++) {
                canal.addBarge(6, 1, !down);
            }
            canal.addBarge(7, 1, down);
            Check.same("seven at the end", 7, canal.bargesIn(down ? 5 : 0));
            Check.same("not yet", 0, canal.advance(4));
            Check.same("room at the end", true, canal.canPass(7));
            Check.same("leaves", 1, canal.advance(1));
        }
    }

    private static void draughtAndWater() {
        ChordCanal canal = new ChordCanal();
        canal.tune(3, 0, 1);
        for (int barge = 0; barge < 3; barge++) {
            canal.addBarge(7, 1, false);
        }
        canal.advance(3);
        for (int barge = 0; barge < 3; barge++) {
            canal.removeBarge(barge);
        }
        Check.same("water", 42, canal.water(4));
        canal.addBarge(7, 9, false);
        canal.addBarge(7, 8, false);
        Check.same("45 are not there", false, canal.canPass(3));
        Check.same("40 are there", true, canal.canPass(4));
        canal.fill(4, 2);
        Check.same("44", false, canal.canPass(3));
        canal.fill(4, 1);
        Check.same("45", true, canal.canPass(3));
    }

    private static void inflowComesFirst() {
        ChordCanal canal = new ChordCanal();
        canal.setInflow(0);
        canal.setDemand(0, 'm');
        canal.addBarge(7, 9, false);
        canal.advance(4);
        Check.same("waits in reach 1", 1, canal.reachOf(0));
        for (int id = 1; id <= 3; id++) {
            canal.addBarge(9, 1, true);
            canal.advance(1);
            canal.removeBarge(id);
        }
        Check.same("water", 42, canal.water(0));
        canal.setDemand(0, 'M');
        canal.setInflow(2);
        Check.same("44 are too few", 0, canal.advance(1));
        canal.setInflow(1);
        Check.same("not yet", false, canal.canPass(0));
        Check.same("45 are enough", 1, canal.advance(1));
        Check.same("water behind it", 39, canal.water(0));
    }

    private static void oneBargeAGate() {
        ChordCanal canal = new ChordCanal();
        canal.addBarge(7, 1, true);
        canal.advance(4);
        canal.addBarge(7, 1, false);
        Check.same("both can", true, canal.canPass(0) && canal.canPass(1));
        Check.same("the one with the lower id", 1, canal.advance(1));
        Check.same("waits", 5, canal.reachOf(1));
        canal.advance(1);
        Check.same("goes", 4, canal.reachOf(1));
        ChordCanal other = new ChordCanal();
        other.setDemand(4, 'm');
        other.addBarge(7, 1, false);
        other.addBarge(7, 1, true);
        other.advance(4);
        other.setDemand(4, 'M');
        Check.same("none leaves", 0, other.advance(1));
        Check.same("up before down", "4 4", other.reachOf(0) + " " + other.reachOf(1));
        Check.same("one gate an hour", 2, other.passages(0) + other.passages(4));
    }

    private static void orderOfIds() {
        ChordCanal canal = new ChordCanal();
        canal.addBarge(8, 1, true);
        for (int barge = 1; barge <= 3; barge++) {
            canal.addBarge(7, 1, true);
        }
        canal.tune(1, 0, 1);
        canal.advance(4);
        canal.setDemand(0, 'a');
        canal.tune(1, 0, 0);
        canal.advance(1);
        Check.same("considered before there is room", "0 2 1 1", reaches(canal));
        canal.advance(1);
        Check.same("then there is", "1 3 2 1", reaches(canal));
    }

    private static void earlierBargeMakesRoom() {
        ChordCanal canal = Canals.withBarges(4);
        canal.tune(1, 0, 1);
        canal.advance(4);
        Check.same("full", "1 1 1 0", reaches(canal));
        canal.tune(1, 0, 0);
        Check.same("no room now", false, canal.canPass(3));
        canal.advance(1);
        Check.same("room in the same hour", "2 1 1 1", reaches(canal));
    }

    private static String reaches(ChordCanal canal) {
        return canal.reachOf(0) + " " + canal.reachOf(1) + " " + canal.reachOf(2) + " " + canal.reachOf(3);
    }

    private static void wearEndsAtTwenty() {
        ChordCanal canal = new ChordCanal();
        canal.tune(3, 0, 1);
        Canals.wearGateFour(canal, 7, 10);
        Canals.wearGateFour(canal, 8, 5);
        canal.replaceString(4, 0);
        canal.tune(4, 0, 1);
        Canals.wearGateFour(canal, 8, 5);
        Check.same("wear", "5 20", canal.wear(4, 0) + " " + canal.wear(4, 1));
        Canals.wearGateFour(canal, 8, 1);
        Check.same("not beyond 20", "6 20", canal.wear(4, 0) + " " + canal.wear(4, 1));
        Check.same("still detuned", 5, canal.sound(4, 1));
        Check.same("passages", 21, canal.passages(4));
    }

    private static void inflowIsLost() {
        ChordCanal canal = new ChordCanal();
        canal.setInflow(7);
        canal.advance(4);
        Check.same("water", "88 0 28", canal.water(0) + " " + canal.lostTotal() + " " + canal.inflowTotal());
        canal.advance(1);
        Check.same("full", "90 5 35", canal.water(0) + " " + canal.lostTotal() + " " + canal.inflowTotal());
        canal.advance(1);
        Check.same("lost", "90 12 42", canal.water(0) + " " + canal.lostTotal() + " " + canal.inflowTotal());
    }
}
