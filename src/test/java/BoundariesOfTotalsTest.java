import java.util.Arrays;

/** Promises 35 to 45, sentence by sentence: totals and checks. */
public final class BoundariesOfTotalsTest {
    public static void main(String[] args) {
        Sentences.run(BoundariesOfTotalsTest.class);
    }

    @Of("Returns the time.")
    static void promise35From0On() {
        ChordCanal canal = new ChordCanal();
        Check.same("new", 0, canal.time());
        canal.advance(1);
        Check.same("one hour", 1, canal.time());
        for (int call = 0; call < 400; call++) {
            canal.advance(100);
        }
        Check.same("many hours", 40001, canal.time());
    }

    @Of("Returns the time.")
    static void promise35OnlyHoursCount() {
        ChordCanal canal = new ChordCanal();
        canal.addBarge(7, 1, true);
        canal.fill(0, 1);
        canal.hoursUntilLeaving(0);
        Check.thrownBy(() -> canal.advance(101));
        Check.thrownBy(() -> Canals.run(canal, "hour;leave 9"));
        Check.same("time", 0, canal.time());
    }

    @Of("Returns the inflow.")
    static void promise36From0To9() {
        ChordCanal canal = new ChordCanal();
        StringBuilder inflows = new StringBuilder().append(canal.inflow());
        for (int units : new int[] {0, 9}) {
            canal.setInflow(units);
            inflows.append(canal.inflow());
        }
        Check.same("inflows", "209", inflows.toString());
    }

    @Of("Returns the inflow.")
    static void promise36IsNotWhatFitsIn() {
        ChordCanal canal = new ChordCanal();
        canal.fill(0, 30);
        canal.advance(5);
        Check.same("inflow into a full reach", 2, canal.inflow());
    }

    @Of("Returns the water in all reaches, added reach by reach.")
    static void promise37FirstAndLastReachCount() {
        for (int reach = 0; reach <= 5; reach++) {
            ChordCanal canal = new ChordCanal();
            canal.fill(reach, 7);
            Check.same("reach " + reach, 367, canal.totalWater());
        }
    }

    @Of("Returns the water in all reaches, added reach by reach.")
    static void promise37AllReachesFull() {
        ChordCanal canal = new ChordCanal();
        Check.same("new", 360, canal.totalWater());
        for (int reach = 0; reach <= 5; reach++) {
            canal.fill(reach, 30);
        }
        canal.advance(9);
        Check.same("full", 540, canal.totalWater());
    }

    @Of("the 360 initial units plus those that have flowed in and been filled in, minus the lost ones.")
    static void promise38CountsWhatCameAndWhatWasLost() {
        ChordCanal canal = new ChordCanal();
        Check.same("new", 360, canal.totalWaterByAccounts());
        canal.advance(3);
        Check.same("flowed in", 366, canal.totalWaterByAccounts());
        canal.fill(5, 30);
        Check.same("filled in", 396, canal.totalWaterByAccounts());
        canal.advance(20);
        Check.same("lost from reach 0", 396 + 24, canal.totalWaterByAccounts());
    }

    @Of("Returns the same number as totalWater:")
    static void promise38AgreesWhereWaterIsLostAndReachesAreEmptyOrFull() {
        ChordCanal canal = new ChordCanal();
        Canals.drain(canal);
        Check.same("an empty and a full reach", "330 330", canal.totalWater() + " " + canal.totalWaterByAccounts());
        canal.addBarge(7, 1, true);
        canal.advance(1);
        Check.same("nothing flowed", "330 330", canal.totalWater() + " " + canal.totalWaterByAccounts());
        canal.advance(4);
        Check.same("6 were lost", "324 324", canal.totalWater() + " " + canal.totalWaterByAccounts());
    }

    @Of("Returns the units that the inflow has added so far, including those that were lost.")
    static void promise39CountsTheLostOnes() {
        ChordCanal canal = new ChordCanal();
        Check.same("new", 0, canal.inflowTotal());
        canal.fill(0, 29);
        canal.advance(1);
        Check.same("one of two is lost", "2 1", canal.inflowTotal() + " " + canal.lostTotal());
        canal.setInflow(9);
        canal.advance(100);
        Check.same("all are lost", "902 901", canal.inflowTotal() + " " + canal.lostTotal());
        canal.setInflow(0);
        canal.advance(100);
        Check.same("no inflow", 902, canal.inflowTotal());
    }

    @Of("Returns the units that have been filled in so far.")
    static void promise40CountsNoRefusedUnits() {
        ChordCanal canal = new ChordCanal();
        Check.same("new", 0, canal.filledTotal());
        canal.fill(1, 30);
        Check.thrownBy(() -> canal.fill(1, 1));
        Check.thrownBy(() -> canal.fill(2, 31));
        Check.thrownBy(() -> canal.fill(2, 0));
        Check.same("30", 30, canal.filledTotal());
        canal.fill(2, 1);
        canal.advance(3);
        Check.same("31", 31, canal.filledTotal());
    }

    @Of("Returns the units that have been lost so far.")
    static void promise41CountsFromTheFirstUnitThatDoesNotFit() {
        ChordCanal canal = new ChordCanal();
        canal.advance(15);
        Check.same("reach 0 is just full", "90 0", canal.water(0) + " " + canal.lostTotal());
        canal.setInflow(1);
        canal.advance(1);
        Check.same("one unit", 1, canal.lostTotal());
    }

    @Of("Returns the units that have been lost so far.")
    static void promise41CountsWhatALowerReachCannotHold() {
        ChordCanal canal = Canals.withBarges(1);
        canal.fill(1, 25);
        canal.advance(1);
        Check.same("one unit", "90 1", canal.water(1) + " " + canal.lostTotal());
    }

    @Of("Returns the number of barges that have left at the end of the canal so far.")
    static void promise42CountsBothEndsAndNoRemovedBarges() {
        ChordCanal canal = Canals.withBarges(2);
        canal.advance(4);
        Check.same("none yet", 0, canal.leftTotal());
        canal.removeBarge(1);
        Check.same("a removed one", 0, canal.leftTotal());
        canal.advance(1);
        Check.same("one down", 1, canal.leftTotal());
        Canals.addBarges(canal, 2, false);
        canal.advance(100);
        Check.same("and two up", 3, canal.leftTotal());
    }

    @Of("Returns the mean wear of all strings: the sum divided by 10, both converted to double.")
    static void promise43From0To20() {
        ChordCanal canal = new ChordCanal();
        Check.same("new", 0.0, canal.meanWear());
        wearAllTo20(canal);
        Check.same("all at 20", 20.0, canal.meanWear());
        canal.replaceString(0, 0);
        Check.same("but one", 18.0, canal.meanWear());
    }

    /** Ten barges pass all gates with the note 7, then ten with the note 8. */
    private static void wearAllTo20(ChordCanal canal) {
        for (int barge = 0; barge < 20; barge++) {
            canal.addBarge(barge < 10 ? 7 : 8, 1, true);
            canal.advance(5);
        }
        Check.same("left", 20, canal.leftTotal());
    }

    @Of("the sum divided by 10, both converted to double.")
    static void promise43IsNotRounded() {
        ChordCanal canal = Canals.withBarges(1);
        canal.advance(1);
        canal.replaceString(0, 0);
        Check.same("a tenth", 0.1, canal.meanWear());
        canal.advance(1);
        Check.same("three tenths", 0.3, canal.meanWear());
    }

    @Of("if there is no such gate")
    static void promise44GatesFrom0To4() {
        ChordCanal canal = Canals.withBarges(2);
        canal.advance(5);
        Check.same("first and last", 2f / 9f + " " + 1f / 9f, canal.passageShare(0) + " " + canal.passageShare(4));
        Check.refusesEach(IndexOutOfBoundsException.class, Bad.GATES, Canals::makeBusy,
                (c, gate) -> c.passageShare(gate));
    }

    @Of("if there were no passages")
    static void promise44NoPassagesAtAll() {
        for (int gate = 0; gate <= 4; gate++) {
            int any = gate;
            Check.refuses("gate " + gate, ArithmeticException.class, c -> c.advance(3), c -> c.passageShare(any));
        }
        ChordCanal canal = Canals.withBarges(1);
        canal.advance(1);
        Check.same("one passage", "1.0 0.0", canal.passageShare(0) + " " + canal.passageShare(1));
        canal.undo();
        Check.same("it is undone", "ArithmeticException", Check.thrownBy(() -> canal.passageShare(0)));
    }

    @Of("If several exceptions apply, the one that is listed first is thrown.")
    static void promise44TheGateComesBeforeThePassages() {
        Check.refusesEach(IndexOutOfBoundsException.class, Bad.GATES, c -> { }, (c, gate) -> c.passageShare(gate));
    }

    @Of("Returns the share of all passages that were passages of a gate, both numbers converted to float.")
    static void promise44IsADivisionOfFloats() {
        ChordCanal canal = Canals.withBarges(2);
        canal.advance(2);
        Check.same("two thirds", 2f / 3f, canal.passageShare(0));
        Check.same("a third", 1f / 3f, canal.passageShare(1));
        Check.same("none", 0f, canal.passageShare(2));
    }

    @Of("no reach contains more than 90 units")
    static void promise45Holds90UnitsAndNone() {
        ChordCanal canal = new ChordCanal();
        Check.same("new", true, canal.isConsistent());
        Canals.drain(canal);
        Check.same("an empty reach and a full one", true, canal.isConsistent());
        for (int reach = 0; reach <= 5; reach++) {
            if (canal.water(reach) < 90) {
                canal.fill(reach, 90 - canal.water(reach));
            }
        }
        Check.same("all full", "540 true", canal.totalWater() + " " + canal.isConsistent());
    }

    @Of("none of the reaches 1 to 4 has more than 3 barges.")
    static void promise45ThreeBargesInAReachAndEightAtAnEnd() {
        Check.same("eight in reach 0", true, Canals.withBarges(8).isConsistent());
        ChordCanal canal = new ChordCanal();
        Canals.addBarges(canal, 8, false);
        Check.same("eight in reach 5", true, canal.isConsistent());
        canal.tune(0, 0, 1);
        canal.advance(40);
        Check.same("three in reach 1", "3 true", canal.bargesIn(1) + " " + canal.isConsistent());
    }

    @Of("both ways to recognize chords agree for the sounds of each gate together with each note")
    static void promise45AnyStringsAndDemands() {
        for (int note = 0; note < 12; note++) {
            ChordCanal canal = new ChordCanal();
            Canals.wearGateFourTo(canal, 10);
            for (int gate = 0; gate < 5; gate++) {
                canal.tune(gate, 0, note);
                canal.tune(gate, 1, (2 * gate + note) % 12);
                canal.setDemand(gate, "Mmda".charAt(gate % 4));
            }
            Check.same("note " + note, true, canal.isConsistent());
        }
    }

    @Of("both ways to compute the water agree")
    static void promise45WaterThatWasLost() {
        ChordCanal canal = new ChordCanal();
        Canals.drain(canal);
        canal.setInflow(9);
        canal.advance(20);
        Check.same("lost", true, canal.lostTotal() > 30);
        Check.same("consistent", true, canal.isConsistent());
    }

    /** No run of calls leads to these states: they are made from inside. */
    @Of("no reach contains more than 90 units")
    static void promise45FailsWith91UnitsInAReach() {
        for (int reach = 0; reach <= 5; reach++) {
            ChordCanal canal = new ChordCanal();
            Inside.row(canal, "reaches", "water")[reach] = 90;
            Inside.put(canal, "reaches", "filledIn", 30);
            Check.same("90 in reach " + reach, true, canal.isConsistent());
            Inside.row(canal, "reaches", "water")[reach] = 91;
            Inside.put(canal, "reaches", "filledIn", 31);
            Check.same("91 in reach " + reach, false, canal.isConsistent());
        }
    }

    @Of("none of the reaches 1 to 4 has more than 3 barges.")
    static void promise45FailsWithFourBargesInAReachBetween() {
        for (int reach = 0; reach <= 5; reach++) {
            ChordCanal canal = Canals.withBarges(8);
            Arrays.fill(Inside.row(canal, "fleet", "reaches"), 0, 3, reach);
            Check.same("three in reach " + reach, true, canal.isConsistent());
            Arrays.fill(Inside.row(canal, "fleet", "reaches"), 0, 4, reach);
            Check.same("four in reach " + reach, reach == 0 || reach == 5, canal.isConsistent());
        }
    }

    @Of("both ways to compute the water agree")
    static void promise45FailsIfTheAccountsAreOffBy1() {
        for (String account : new String[] {"flowedIn", "filledIn", "lost"}) {
            for (int off : new int[] {-1, 1}) {
                ChordCanal canal = new ChordCanal();
                Inside.put(canal, "reaches", account, off);
                Check.same(account + " off by " + off, false, canal.isConsistent());
            }
        }
    }
}
