/** Promise 9 with the terms "Passing" and "One hour", sentence by sentence. */
public final class BoundariesOfHoursTest {
    private static final String FLOW = "6 units of water, but at most what is there, flow from the upper one";
    private static final String HELD = "as far as the lower one can hold them; the others are lost.";
    private static final String ONE_A_GATE = "unless another barge has passed this gate in this hour.";
    private static final String LEAVES = "It leaves, and ceases to exist, when it comes to reach 5 or reach 0";

    public static void main(String[] args) {
        Sentences.run(BoundariesOfHoursTest.class);
    }

    @Of("if the number of hours is not between 1 and 100")
    static void promise9HoursFrom1To100() {
        ChordCanal canal = new ChordCanal();
        canal.advance(1);
        Check.same("the fewest", 1, canal.time());
        canal.advance(100);
        Check.same("the most", 101, canal.time());
        int[] hours = {0, 101, -1, Integer.MIN_VALUE, Integer.MAX_VALUE};
        Check.refusesEach(IllegalArgumentException.class, hours, Canals::makeBusy, (c, number) -> c.advance(number));
    }

    @Of("Returns the number of barges that leave at the end of the canal in these hours.")
    static void promise9TheAnswerCountsThoseThatLeave() {
        ChordCanal canal = Canals.withBarges(4);
        Check.same("none before hour 5", 0, canal.advance(4));
        Check.same("one in hour 5", 1, canal.advance(1));
        Check.same("two in two hours", 2, canal.advance(2));
        Check.same("the last one in 100 hours", 1, canal.advance(100));
        Check.same("none are there", 0, canal.advance(100));
        ChordCanal other = new ChordCanal();
        Canals.addBarges(other, 8, false);
        other.removeBarge(4);
        Check.same("seven, and not the removed one", 7, other.advance(100));
    }

    @Of("Returns the number of barges that leave at the end of the canal in these hours.")
    static void promise9TwoMayLeaveInOneHour() {
        ChordCanal canal = new ChordCanal();
        canal.addBarge(7, 1, true);
        canal.advance(2);
        canal.tune(2, 0, 1);
        canal.addBarge(7, 1, false);
        canal.advance(2);
        canal.tune(2, 0, 0);
        canal.advance(1);
        Check.same("one of them passed", "3 3", canal.reachOf(0) + " " + canal.reachOf(1));
        canal.advance(1);
        canal.tune(4, 0, 1);
        canal.advance(1);
        canal.tune(4, 0, 0);
        Check.same("one gate left each", "4 1", canal.reachOf(0) + " " + canal.reachOf(1));
        Check.same("both", 2, canal.advance(1));
    }

    @Of(LEAVES)
    static void promise9DownLeavesInReach5AndUpInReach0() {
        for (boolean down : new boolean[] {true, false}) {
            ChordCanal canal = new ChordCanal();
            canal.addBarge(7, 1, down);
            canal.advance(4);
            Check.same("in the last reach but one", down ? "4 true" : "1 true", canal.reachOf(0) + " "
                    + canal.exists(0));
            canal.advance(1);
            Check.same("left", "false 0 0", canal.exists(0) + " " + canal.bargeCount() + " "
                    + canal.bargesIn(down ? 5 : 0));
        }
    }

    @Of(LEAVES)
    static void promise9NoBargeLeavesWhereItBegins() {
        ChordCanal canal = new ChordCanal();
        canal.addBarge(6, 1, true);
        canal.addBarge(6, 1, false);
        Check.same("none leaves", 0, canal.advance(10));
        Check.same("reaches", "0 5", canal.reachOf(0) + " " + canal.reachOf(1));
    }

    @Of({"The canal has the reaches 0 to 5 in a row; reach 0 is the highest one.",
        "For each k from 0 to 4 there is a gate k between the reaches k and k + 1."})
    static void promise9EachGateLeadsFromAReachToTheNext() {
        for (boolean down : new boolean[] {true, false}) {
            for (int gate = 0; gate <= 4; gate++) {
                ChordCanal canal = new ChordCanal();
                canal.addBarge(7, 1, down);
                canal.tune(gate, 0, 1);
                canal.advance(9);
                Check.same("stops at gate " + gate, down ? gate : gate + 1, canal.reachOf(0));
                canal.tune(gate, 0, 0);
                canal.advance(1);
                boolean isLast = gate == (down ? 4 : 0);
                Check.same("passes it", isLast ? "gone 1" : (down ? gate + 1 : gate) + " 1",
                        (canal.exists(0) ? "" + canal.reachOf(0) : "gone") + " " + canal.passages(gate));
            }
        }
    }

    @Of({"Time is counted in hours from 0.", "Lets time pass."})
    static void promise9TimeBeginsAt0() {
        Check.same("time", 0, new ChordCanal().time());
    }

    @Of("In one hour, the time increases by 1;")
    static void promise9EachHourCounts1() {
        ChordCanal canal = new ChordCanal();
        canal.advance(1);
        Check.same("one", 1, canal.time());
        canal.advance(3);
        Check.same("three more", 4, canal.time());
    }

    @Of("then the inflow adds its units to reach 0, and what does not fit is lost;")
    static void promise9TheInflowFillsReach0UpTo90() {
        inflow(88, 2, 90, 0);
        inflow(89, 2, 90, 1);
        inflow(90, 2, 90, 2);
        inflow(81, 9, 90, 0);
        inflow(82, 9, 90, 1);
        inflow(90, 9, 90, 9);
        inflow(90, 0, 90, 0);
        inflow(61, 0, 61, 0);
        inflow(61, 1, 62, 0);
    }

    private static void inflow(int before, int units, int after, int lost) {
        ChordCanal canal = new ChordCanal();
        canal.fill(0, before - 60);
        canal.setInflow(units);
        canal.advance(1);
        Check.same(units + " into " + before, after + " " + lost + " " + units, canal.water(0) + " "
                + canal.lostTotal() + " " + canal.inflowTotal());
        Check.same("the next reach", 60, canal.water(1));
    }

    @Of("then the inflow adds its units to reach 0")
    static void promise9TheInflowComesBeforeTheBarges() {
        ChordCanal canal = new ChordCanal();
        Canals.drain(canal);
        int barge = canal.addBarge(7, 9, false);
        canal.advance(4);
        canal.fill(0, 42);
        canal.setInflow(2);
        Check.same("44 are too few", 0, canal.advance(1));
        canal.setInflow(1);
        Check.same("44 are too few before the hour", false, canal.canPass(barge));
        Check.same("45 are there in the hour", 1, canal.advance(1));
    }

    @Of("then the inflow adds its units to reach 0")
    static void promise9WhatDoesNotFitIsLostBeforeABargePasses() {
        ChordCanal canal = Canals.withBarges(1);
        canal.fill(0, 30);
        canal.advance(1);
        Check.same("lost", "84 66 2", canal.water(0) + " " + canal.water(1) + " " + canal.lostTotal());
    }

    @Of("then the barges are considered in the order of their ids.")
    static void promise9TheLowerIdPassesFirst() {
        for (boolean firstIsDown : new boolean[] {true, false}) {
            ChordCanal canal = new ChordCanal();
            canal.tune(2, 0, 1);
            canal.addBarge(7, 1, firstIsDown);
            canal.addBarge(7, 1, !firstIsDown);
            canal.advance(5);
            canal.tune(2, 0, 0);
            canal.advance(1);
            Check.same("both in one reach", firstIsDown ? "3 3" : "2 2", canal.reachOf(0) + " " + canal.reachOf(1));
        }
    }

    @Of("then the barges are considered in the order of their ids.")
    static void promise9AnEarlierBargeMakesRoomInTheSameHour() {
        ChordCanal canal = Canals.withBarges(4);
        canal.tune(1, 0, 1);
        canal.advance(5);
        Check.same("full", 3, canal.bargesIn(1));
        canal.tune(1, 0, 0);
        canal.advance(1);
        Check.same("reaches", "2 1 1 1", reaches(canal, 4));
    }

    @Of("then the barges are considered in the order of their ids.")
    static void promise9ALaterBargeMakesRoomForTheNextHour() {
        ChordCanal canal = new ChordCanal();
        canal.addBarge(6, 1, true);
        Canals.addBarges(canal, 3, true);
        canal.tune(1, 0, 1);
        canal.advance(5);
        canal.setDemand(0, 'd');
        canal.tune(0, 1, 3);
        canal.tune(1, 0, 0);
        canal.advance(1);
        Check.same("too early", "0 2 1 1", reaches(canal, 4));
        canal.advance(1);
        Check.same("then", "1 3 2 1", reaches(canal, 4));
    }

    private static String reaches(ChordCanal canal, int barges) {
        StringBuilder text = new StringBuilder();
        for (int barge = 0; barge < barges; barge++) {
            text.append(barge == 0 ? "" : " ").append(canal.reachOf(barge));
        }
        return text.toString();
    }

    @Of("then the barges are considered in the order of their ids.")
    static void promise9WithoutABargeNothingPassesGatesThatOpenToAnyNote() {
        for (int note = 0; note <= 11; note++) {
            ChordCanal canal = new ChordCanal();
            for (int gate = 0; gate <= 4; gate++) {
                canal.tune(gate, 0, (note + 4) % 12);
                canal.tune(gate, 1, (note + 7) % 12);
            }
            canal.advance(1);
            Check.same("opens to " + note, "true 62|60|60|60|60|60", canal.opensTo(0, note) + " "
                    + Canals.picture(canal));
        }
    }

    @Of(ONE_A_GATE)
    static void promise9OneBargeAGateInTheSameDirection() {
        for (boolean down : new boolean[] {true, false}) {
            ChordCanal canal = new ChordCanal();
            Canals.addBarges(canal, 2, down);
            canal.advance(1);
            Check.same("first hour", down ? "1 0" : "4 5", reaches(canal, 2));
            Check.same("passages", 1, canal.passages(down ? 0 : 4));
            canal.advance(1);
            Check.same("second hour", down ? "2 1" : "3 4", reaches(canal, 2));
        }
    }

    @Of(ONE_A_GATE)
    static void promise9OneBargeAGateFromBothSides() {
        ChordCanal canal = Canals.withBarges(1);
        canal.advance(4);
        canal.addBarge(7, 1, false);
        Check.same("both can pass gate 4", "true true", canal.canPass(0) + " " + canal.canPass(1));
        canal.advance(1);
        Check.same("one did", "false 5 2", canal.exists(0) + " " + canal.reachOf(1) + " "
                + (canal.passages(4) + canal.passages(3)));
    }

    @Of(ONE_A_GATE)
    static void promise9ABargeThatCannotPassDoesNotKeepAnotherFromPassing() {
        ChordCanal canal = new ChordCanal();
        canal.addBarge(6, 1, true);
        canal.addBarge(7, 1, true);
        canal.advance(1);
        Check.same("reaches", "0 1", reaches(canal, 2));
    }

    @Of(ONE_A_GATE)
    static void promise9EachGateIsForOneBargeInTheSameHour() {
        ChordCanal canal = new ChordCanal();
        for (int barge = 0; barge < 5; barge++) {
            canal.addBarge(7, 1, true);
            canal.advance(1);
        }
        Canals.addBarges(canal, 1, true);
        Check.same("reaches", "4 3 2 1 0", canal.reachOf(1) + " " + canal.reachOf(2) + " " + canal.reachOf(3) + " "
                + canal.reachOf(4) + " " + canal.reachOf(5));
        canal.advance(1);
        Check.same("all five went on", "false 4 3 2 1", canal.exists(1) + " " + canal.reachOf(2) + " "
                + canal.reachOf(3) + " " + canal.reachOf(4) + " " + canal.reachOf(5));
    }

    @Of("A barge passes at most one gate in an hour.")
    static void promise9ABargePassesOneGateAnHour() {
        for (boolean down : new boolean[] {true, false}) {
            ChordCanal canal = new ChordCanal();
            canal.addBarge(7, 1, down);
            for (int hour = 1; hour <= 4; hour++) {
                canal.advance(1);
                Check.same("reach", down ? hour : 5 - hour, canal.reachOf(0));
            }
        }
    }

    @Of(FLOW)
    static void promise9SixUnitsFlowIfTheyAreThere() {
        flow(7, 1, 66);
        flow(6, 0, 66);
        flow(90, 84, 66);
    }

    @Of(FLOW)
    static void promise9FewerThanSixUnitsFlowIfNoMoreAreThere() {
        flow(5, 0, 65);
        flow(1, 0, 61);
    }

    @Of(FLOW)
    static void promise9NothingFlowsOutOfAnEmptyReach() {
        flow(0, 0, 60);
    }

    /** A barge passes gate 0 with this water before it. */
    private static void flow(int before, int upper, int lower) {
        ChordCanal canal = new ChordCanal();
        Canals.drain(canal);
        if (before > 0) {
            canal.fill(0, before);
        }
        canal.addBarge(7, 1, true);
        canal.advance(1);
        Check.same("water after " + before, upper + " " + lower, canal.water(0) + " " + canal.water(1));
        Check.same("lost", 30, canal.lostTotal());
        Check.same("passed", "1 11", canal.reachOf(10) + " " + canal.passages(0));
    }

    @Of("flow from the upper one of the two reaches into the lower one")
    static void promise9TheWaterFlowsDownForABargeThatGoesUpToo() {
        for (int gate = 4; gate >= 0; gate--) {
            ChordCanal canal = new ChordCanal();
            canal.setInflow(0);
            canal.addBarge(7, 1, false);
            if (gate < 4) {
                canal.advance(4 - gate);
            }
            String before = canal.water(gate) + " " + canal.water(gate + 1);
            canal.advance(1);
            String due = gate == 4 ? "60 60, 54 66" : "60 54, 54 60";
            Check.same("gate " + gate, due, before + ", " + canal.water(gate) + " " + canal.water(gate + 1));
        }
    }

    @Of("flow from the upper one of the two reaches into the lower one")
    static void promise9TheWaterFlowsAtEachGate() {
        ChordCanal canal = Canals.withBarges(1);
        canal.setInflow(0);
        String[] due = {"54|66*|60|60|60|60", "54|60|66*|60|60|60", "54|60|60|66*|60|60", "54|60|60|60|66*|60",
            "54|60|60|60|60|66"};
        for (String picture : due) {
            canal.advance(1);
            Check.same("picture", picture, Canals.picture(canal));
        }
    }

    @Of(HELD)
    static void promise9TheLowerReachHolds90Units() {
        held(83, 89, 0);
        held(84, 90, 0);
        held(85, 90, 1);
        held(89, 90, 5);
        held(90, 90, 6);
    }

    private static void held(int before, int after, int lost) {
        ChordCanal canal = Canals.withBarges(1);
        canal.setInflow(0);
        canal.fill(1, before - 60);
        canal.advance(1);
        Check.same("lower reach after " + before, "54 " + after + " " + lost, canal.water(0) + " " + canal.water(1)
                + " " + canal.lostTotal());
    }

    @Of(HELD)
    static void promise9NoMoreIsLostThanWasThere() {
        ChordCanal canal = new ChordCanal();
        Canals.drain(canal);
        canal.fill(0, 5);
        canal.fill(1, 29);
        canal.addBarge(7, 1, true);
        canal.advance(1);
        Check.same("1 held and 4 lost", "0 90 34", canal.water(0) + " " + canal.water(1) + " " + canal.lostTotal());
    }

    @Of("The wear of each string of the gate increases by 1, but not beyond 20.")
    static void promise9TheWearEndsAt20() {
        ChordCanal canal = new ChordCanal();
        Canals.wearGateFourTo(canal, 19);
        Canals.wearGateFour(canal, 8, 1);
        Check.same("20", "20 20", canal.wear(4, 0) + " " + canal.wear(4, 1));
        Canals.wearGateFour(canal, 8, 1);
        Check.same("not 21", "20 20 21", canal.wear(4, 0) + " " + canal.wear(4, 1) + " " + canal.passages(4));
    }

    @Of("The wear of each string of the gate increases by 1, but not beyond 20.")
    static void promise9EachStringEndsAt20ByItself() {
        for (int replaced = 0; replaced <= 1; replaced++) {
            ChordCanal canal = new ChordCanal();
            Canals.wearGateFourTo(canal, 20);
            canal.replaceString(4, replaced);
            canal.tune(4, replaced, replaced == 0 ? 1 : 5);
            Canals.wearGateFour(canal, 8, 1);
            Check.same("wear", "1 20", canal.wear(4, replaced) + " " + canal.wear(4, 1 - replaced));
        }
    }

    @Of("The wear of each string of the gate increases by 1")
    static void promise9OnlyTheGateThatIsPassedWears() {
        ChordCanal canal = Canals.withBarges(1);
        canal.advance(2);
        Check.same("wear", "11 11 00 00 00", wears(canal));
        canal.advance(3);
        Check.same("wear", "11 11 11 11 11", wears(canal));
    }

    private static String wears(ChordCanal canal) {
        StringBuilder text = new StringBuilder();
        for (int gate = 0; gate < 5; gate++) {
            text.append(gate == 0 ? "" : " ").append(canal.wear(gate, 0)).append(canal.wear(gate, 1));
        }
        return text.toString();
    }

    @Of("The sound of a string is its note if its wear is less than 10")
    static void promise9TheTenthPassageDetunesAGate() {
        ChordCanal canal = new ChordCanal();
        Canals.wearGateFourTo(canal, 9);
        Canals.addBarges(canal, 2, false);
        canal.advance(2);
        Check.same("the tenth passed, the next did not", "3 5", canal.reachOf(9) + " " + canal.reachOf(10));
        Check.same("wear", "10 5", canal.wear(4, 0) + " " + canal.sound(4, 1));
    }

    @Of("at most 3 barges; there is no such limit for the reaches 0 and 5.")
    static void promise9NoFourthBargeComesIntoAReach() {
        for (int reach = 1; reach <= 4; reach++) {
            ChordCanal down = Canals.withBarges(4);
            down.tune(reach, 0, 1);
            down.advance(30);
            Check.same("down, reach " + reach, "3 1", down.bargesIn(reach) + " " + down.bargesIn(reach - 1));
            ChordCanal up = new ChordCanal();
            Canals.addBarges(up, 4, false);
            up.tune(reach - 1, 0, 1);
            up.advance(30);
            Check.same("up, reach " + reach, "3 1", up.bargesIn(reach) + " " + up.bargesIn(reach + 1));
        }
    }
}
