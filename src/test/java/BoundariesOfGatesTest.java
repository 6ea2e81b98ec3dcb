import java.util.NoSuchElementException;

/** Promises 17 to 24, sentence by sentence: gates and reaches. */
public final class BoundariesOfGatesTest {
    private static final String FIRST_LISTED = "If several exceptions apply, the one that is listed first is thrown.";
    private static final Class<?> NO_PLACE = IndexOutOfBoundsException.class;
    private static final Class<?> NONE = NoSuchElementException.class;

    public static void main(String[] args) {
        Sentences.run(BoundariesOfGatesTest.class);
    }

    @Of("if there is no such gate")
    static void promise17GatesFrom0To4() {
        ChordCanal canal = new ChordCanal();
        canal.tune(0, 1, 9);
        canal.tune(4, 1, 8);
        Check.same("first and last", "9 4 8", canal.note(0, 1) + " " + canal.note(2, 1) + " " + canal.note(4, 1));
        Check.refusesEach(NO_PLACE, Bad.GATES, Canals::makeBusy, (c, gate) -> c.note(gate, 0));
    }

    @Of({"or no such string", "`string`: the string, 0 or 1"})
    static void promise17StringsAre0And1() {
        Check.same("strings", "0 4", new ChordCanal().note(3, 0) + " " + new ChordCanal().note(3, 1));
        Check.refusesEach(NO_PLACE, Bad.STRINGS, Canals::makeBusy, (c, string) -> c.note(1, string));
        for (int[] place : Bad.CROSSED) {
            Check.refuses("crossed", NO_PLACE, Canals::makeBusy, c -> c.note(place[0], place[1]));
        }
    }

    @Of("Returns the note of a string.")
    static void promise17TheNoteIsNotTheSound() {
        ChordCanal canal = new ChordCanal();
        Canals.wearGateFourTo(canal, 10);
        canal.tune(4, 1, 11);
        Check.same("notes", "0 11", canal.note(4, 0) + " " + canal.note(4, 1));
    }

    @Of("if there is no such gate")
    static void promise18GatesFrom0To4() {
        ChordCanal canal = Canals.withBarges(2);
        canal.advance(5);
        Check.same("first and last", "2 1", canal.wear(0, 1) + " " + canal.wear(4, 0));
        Check.refusesEach(NO_PLACE, Bad.GATES, Canals::makeBusy, (c, gate) -> c.wear(gate, 0));
    }

    @Of({"or no such string", "`string`: the string, 0 or 1"})
    static void promise18StringsAre0And1() {
        ChordCanal canal = Canals.withBarges(2);
        canal.advance(5);
        canal.replaceString(3, 0);
        Check.same("strings", "0 2", canal.wear(3, 0) + " " + canal.wear(3, 1));
        Check.refusesEach(NO_PLACE, Bad.STRINGS, Canals::makeBusy, (c, string) -> c.wear(1, string));
        for (int[] place : Bad.CROSSED) {
            Check.refuses("crossed", NO_PLACE, Canals::makeBusy, c -> c.wear(place[0], place[1]));
        }
    }

    @Of("for each string a wear from 0 to 20, initially 0.")
    static void promise18WearsFrom0To20() {
        ChordCanal canal = new ChordCanal();
        Check.same("new", 0, canal.wear(4, 0));
        Canals.wearGateFour(canal, 7, 1);
        Check.same("one passage", 1, canal.wear(4, 0));
        Canals.wearGateFour(canal, 7, 9);
        Canals.wearGateFour(canal, 8, 12);
        Check.same("22 passages", 20, canal.wear(4, 0));
    }

    @Of("if there is no such gate")
    static void promise19GatesFrom0To4() {
        ChordCanal canal = new ChordCanal();
        canal.setDemand(0, 'a');
        canal.setDemand(4, 'd');
        Check.same("first and last", "a d", canal.demand(0) + " " + canal.demand(4));
        Check.refusesEach(NO_PLACE, Bad.GATES, Canals::makeBusy, (c, gate) -> c.demand(gate));
    }

    @Of("Returns 'M', 'm', 'd' or 'a'.")
    static void promise19EachKind() {
        ChordCanal canal = new ChordCanal();
        StringBuilder kinds = new StringBuilder().append(canal.demand(1));
        for (char kind : "mda".toCharArray()) {
            canal.setDemand(1, kind);
            kinds.append(canal.demand(1));
        }
        Check.same("kinds", "Mmda", kinds.toString());
    }

    @Of("if there is no such gate")
    static void promise20GatesFrom0To4() {
        ChordCanal canal = Canals.withBarges(2);
        canal.advance(5);
        Check.same("first and last", "2 1", canal.passages(0) + " " + canal.passages(4));
        Check.refusesEach(NO_PLACE, Bad.GATES, Canals::makeBusy, (c, gate) -> c.passages(gate));
    }

    @Of("Returns how many barges have passed a gate so far.")
    static void promise20CountsBothDirectionsAndBeyond20() {
        ChordCanal canal = new ChordCanal();
        Check.same("none", 0, canal.passages(4));
        Canals.wearGateFourTo(canal, 20);
        Check.same("up", 20, canal.passages(4));
        canal.addBarge(8, 1, false);
        canal.advance(1);
        Check.same("not ended by the wear", 21, canal.passages(4));
        ChordCanal other = Canals.withBarges(1);
        other.advance(5);
        other.addBarge(7, 1, false);
        other.advance(1);
        Check.same("down and up", 2, other.passages(4));
    }

    @Of("Returns how many barges have passed a gate so far.")
    static void promise20StaysWhenAStringIsReplacedAndABargeRemoved() {
        ChordCanal canal = Canals.withBarges(2);
        canal.advance(2);
        canal.replaceString(0, 0);
        canal.replaceString(0, 1);
        canal.removeBarge(0);
        Check.same("passages", "2 1 0", canal.passages(0) + " " + canal.passages(1) + " " + canal.passages(2));
    }

    private static String ranks(ChordCanal canal) {
        StringBuilder text = new StringBuilder();
        for (int rank = 0; rank < 5; rank++) {
            text.append(canal.gateByTraffic(rank));
        }
        return text.toString();
    }

    @Of("if there is no such rank")
    static void promise21RanksFrom0To4() {
        Check.same("first and last", "0 4", new ChordCanal().gateByTraffic(0) + " "
                + new ChordCanal().gateByTraffic(4));
        Check.refusesEach(NONE, Bad.GATES, Canals::makeBusy, (c, rank) -> c.gateByTraffic(rank));
    }

    @Of("`rank`: the rank, counted from 0")
    static void promise21TheRank0IsTheGateWithTheMostPassages() {
        ChordCanal canal = new ChordCanal();
        Canals.addBarges(canal, 2, false);
        canal.advance(3);
        Check.same("ranks", "34201", ranks(canal));
    }

    @Of("then by number in ascending order.")
    static void promise21GatesThatAreAlikeComeByNumber() {
        Check.same("new", "01234", ranks(new ChordCanal()));
        ChordCanal canal = Canals.withBarges(3);
        canal.advance(100);
        Check.same("three passages each", "01234", ranks(canal));
    }

    @Of("then by the greater wear of their strings in descending order")
    static void promise21TheGreaterWearDecidesAmongTheSamePassages() {
        ChordCanal canal = Canals.withBarges(3);
        canal.advance(100);
        canal.replaceString(0, 0);
        Check.same("one of two strings", "01234", ranks(canal));
        canal.replaceString(0, 1);
        Check.same("both strings", "12340", ranks(canal));
        canal.replaceString(2, 1);
        canal.replaceString(1, 0);
        canal.replaceString(1, 1);
        Check.same("the other one of two", "23401", ranks(canal));
    }

    @Of("then by the greater wear of their strings in descending order")
    static void promise21AWearThatIsGreaterBy1Decides() {
        ChordCanal canal = Canals.withBarges(2);
        canal.advance(1);
        canal.replaceString(0, 0);
        canal.replaceString(0, 1);
        canal.advance(100);
        Check.same("wear", "1 2", canal.wear(0, 0) + " " + canal.wear(1, 0));
        Check.same("two passages each", "12340", ranks(canal));
    }

    @Of("then by the greater wear of their strings in descending order")
    static void promise21TheSumOfTheWearsDoesNotDecide() {
        ChordCanal canal = Canals.withBarges(2);
        canal.tune(1, 0, 1);
        canal.advance(10);
        canal.tune(1, 0, 0);
        canal.replaceString(0, 0);
        canal.advance(1);
        canal.replaceString(1, 0);
        canal.advance(1);
        Check.same("wear", "0 2 1 2", canal.wear(0, 0) + " " + canal.wear(0, 1) + " " + canal.wear(1, 0) + " "
                + canal.wear(1, 1));
        Check.same("sums 2 and 3, but 2 is the greater wear of both", "01", ranks(canal).substring(0, 2));
    }

    @Of("when gates are sorted by passages in descending order")
    static void promise21PassagesComeBeforeWear() {
        ChordCanal canal = Canals.withBarges(3);
        canal.advance(100);
        canal.addBarge(7, 1, true);
        canal.advance(1);
        canal.replaceString(0, 0);
        canal.replaceString(0, 1);
        Check.same("ranks", "01234", ranks(canal));
        canal.addBarge(7, 1, false);
        canal.advance(1);
        canal.replaceString(4, 0);
        canal.replaceString(4, 1);
        Check.same("four passages of 0, 1 and 4", "10423", ranks(canal));
    }

    @Of("if there is no such reach")
    static void promise22ReachesFrom0To5() {
        ChordCanal canal = new ChordCanal();
        canal.fill(0, 1);
        canal.fill(5, 2);
        Check.same("first and last", "61 60 62", canal.water(0) + " " + canal.water(3) + " " + canal.water(5));
        Check.refusesEach(NO_PLACE, Bad.REACHES, Canals::makeBusy, (c, reach) -> c.water(reach));
    }

    @Of("A reach holds water from 0 to 90 units")
    static void promise22WaterFrom0To90() {
        ChordCanal canal = new ChordCanal();
        Canals.drain(canal);
        Check.same("0 and 90", "0 90", canal.water(0) + " " + canal.water(5));
        canal.setInflow(9);
        canal.advance(11);
        Check.same("90 after 99 units", 90, canal.water(0));
    }

    @Of("if there is no such reach")
    static void promise23ReachesFrom0To5() {
        ChordCanal canal = Canals.withBarges(2);
        Canals.addBarges(canal, 1, false);
        Check.same("first and last", "2 0 1", canal.bargesIn(0) + " " + canal.bargesIn(2) + " " + canal.bargesIn(5));
        Check.refusesEach(NO_PLACE, Bad.REACHES, Canals::makeBusy, (c, reach) -> c.bargesIn(reach));
    }

    @Of("Returns the number of barges in a reach.")
    static void promise23FromNoneToEight() {
        ChordCanal canal = new ChordCanal();
        for (int barges = 0; barges < 8; barges++) {
            Check.same("barges", barges, canal.bargesIn(0));
            canal.addBarge(6, 1, true);
        }
        Check.same("barges", 8, canal.bargesIn(0));
        canal.removeBarge(3);
        Check.same("after a removal", 7, canal.bargesIn(0));
    }

    @Of("Returns the number of barges in a reach.")
    static void promise23ABargeThatHasLeftIsInNoReach() {
        ChordCanal canal = Canals.withBarges(1);
        Canals.addBarges(canal, 1, false);
        canal.advance(10);
        for (int reach = 0; reach <= 5; reach++) {
            Check.same("reach " + reach, 0, canal.bargesIn(reach));
        }
    }

    @Of("if there is no such reach")
    static void promise24ReachesFrom0To5() {
        ChordCanal canal = Canals.withBarges(1);
        Canals.addBarges(canal, 1, false);
        Check.same("first and last", "0 1", canal.bargeIn(0, 0) + " " + canal.bargeIn(5, 0));
        Check.refusesEach(NO_PLACE, Bad.REACHES, Canals::makeBusy, (c, reach) -> c.bargeIn(reach, 0));
    }

    @Of("if there is no such position")
    static void promise24PositionsBelowTheNumberOfBarges() {
        Check.same("last of 8", 7, Canals.withBarges(8).bargeIn(0, 7));
        int[] positions = {8, -1, Integer.MIN_VALUE, Integer.MAX_VALUE};
        Check.refusesEach(NONE, positions, c -> Canals.addBarges(c, 8, true), (c, position) -> c.bargeIn(0, position));
        Check.refusesEach(NONE, new int[] {1, 2, -1}, Canals::makeBusy, (c, position) -> c.bargeIn(2, position));
        Check.refusesEach(NONE, new int[] {0, 1, -1}, Canals::makeBusy, (c, position) -> c.bargeIn(1, position));
    }

    @Of("`position`: the position in the order of ids, counted from 0")
    static void promise24TheOrderIsThatOfIdsNotOfArrivals() {
        ChordCanal canal = new ChordCanal();
        canal.addBarge(6, 1, true);
        canal.addBarge(7, 1, true);
        canal.addBarge(7, 1, false);
        canal.tune(1, 0, 1);
        canal.advance(1);
        canal.setDemand(0, 'd');
        canal.tune(0, 1, 3);
        canal.advance(1);
        Check.same("1 came first", "0 1", canal.bargeIn(1, 0) + " " + canal.bargeIn(1, 1));
        canal.removeBarge(0);
        Check.same("after a removal", 1, canal.bargeIn(1, 0));
    }

    @Of(FIRST_LISTED)
    static void promise24TheReachComesBeforeThePosition() {
        Check.refuses("reach 6", NO_PLACE, Canals::makeBusy, c -> c.bargeIn(6, 9));
        Check.refuses("reach -1", NO_PLACE, Canals::makeBusy, c -> c.bargeIn(-1, -1));
    }
}
