/** The edges of promises 1 to 4: a new object, its MARKET and WEIGHTS. */
public final class MarketEdgesTest {
    private static final String EIGHT = "001;002;003;004;005;006;007;008";

    public static void main(String[] args) throws ReflectiveOperationException {
        Check.all(MarketEdgesTest.class);
    }

    static void promise1NoThings() {
        ByHand x = new ByHand();
        Check.due("THINGS", x.many(0), 0);
        Check.due("weight", x.weight(0), ByHand.UNKNOWN);
        Check.due("weigh", x.weigh(0, 1), ByHand.UNKNOWN);
    }

    static void promise1NoHands() {
        ByHand x = new ByHand();
        Check.due("HANDS", x.many(1), 0);
        Check.due("ofHand", x.ofHand(0, 0), ByHand.UNKNOWN);
        Check.due("tells", x.tells(0, 1, 1), ByHand.UNKNOWN);
        Check.due("alike", x.alike(0, 0), ByHand.UNKNOWN);
        Check.due("finer", x.finer(0, 0), ByHand.UNKNOWN);
        Check.due("way", x.way(0, 0, 0, -1), ByHand.UNKNOWN);
        Check.due("noon", x.noon(0, 0, 0), ByHand.UNKNOWN);
        Check.due("gain", x.gain(0, 0, 0, 0, 0), ByHand.UNKNOWN);
        Check.due("rows", x.rows(0, -1), ByHand.UNKNOWN);
        Check.due("longest", x.longest(0), ByHand.UNKNOWN);
        Check.due("crowd", x.crowd(0), ByHand.UNKNOWN);
        Check.due("measure", x.measure(0, 0), ByHand.UNKNOWN);
        Check.due("even", x.even(0, 0), ByHand.UNKNOWN);
        Check.due("odds", x.odds(0, 0), ByHand.LOST);
        Check.due("tell", x.tell(0), ByHand.UNKNOWN);
        Check.due("shake", x.shake(0), ByHand.UNKNOWN);
        Check.due("as", x.as(0, 0), ByHand.UNKNOWN);
        Check.due("trace", x.trace(), 0);
    }

    static void promise1NoSayings() {
        ByHand x = new ByHand();
        Check.due("SAYINGS", x.many(2), 0);
        Check.due("saying", x.saying(0, 0, 1, 0), ByHand.UNKNOWN);
        Check.due("back 0", x.back(0), 0);
        Check.due("back 1", x.back(1), ByHand.OUTSIDE);
        Check.due("untrue", x.untrue(), 0);
        Check.due("leaves", x.leaves(0, 0), ByHand.UNKNOWN);
        Check.due("breaks", x.breaks(0, 0), ByHand.UNKNOWN);
    }

    static void promise1NoMarket() {
        ByHand x = new ByHand();
        String told = Stand.told(new ByHand());
        for (int kind = 0; kind < 3; kind++) {
            Check.due("hand", x.hand(kind, 1), ByHand.STATE);
        }
        Check.holds("STATE changes nothing", Stand.told(x).equals(told));
    }

    static void promise1SheetsHaveNothing() {
        for (int k = 0; k < 4; k++) {
            ByHand x = new ByHand();
            Check.due("lose", x.lose(k), 0);
            Check.due("put", x.put(k, 0, 0), -11);
            for (int sort = 0; sort < 3; sort++) {
                Check.due("cell", x.cell(k, 0, sort), ByHand.LOST);
                Check.due("its FAULT", x.fault(), Stand.NULL);
                Check.due("market", x.market(k, sort, 0, 0), -11);
                Check.due("copies", x.copies(1, k, sort, 0, 1, 0), -11);
                Check.due("bestRow", x.bestRow(1, k, sort, 0, 1, 0), -11);
            }
        }
    }

    static void promise1NoTraceNoFault() {
        Check.due("trace", new ByHand().trace(), 0);
        Check.due("fault", new ByHand().fault(), 0);
    }

    static void promise1ObjectsAreApart() {
        ByHand other = new ByHand();
        ByHand x = Stand.full();
        Check.due("THINGS of the other one", other.many(0), 0);
        Check.due("its SHEETS", other.lose(0), 0);
        Check.due("its TRACE", other.trace(), 0);
        Check.due("THINGS of this one", x.many(0), 8);
    }

    private static void text(String text, int due) {
        ByHand x = new ByHand();
        Check.due("market " + text, Check.market(x, text), due);
        Check.due("THINGS of " + text, x.many(0), Math.max(due, 0));
        Check.due("fault() behind " + text, x.fault(), 0);
    }

    static void promise2TwoThingsAreTheLeast() {
        text("345", -103);
        text("345;", -104);
        text("345;678", 2);
    }

    static void promise2EightThingsAreTheMost() {
        text(EIGHT.substring(0, 27), 7);
        text(EIGHT, 8);
        text(EIGHT + ";", -131);
        text(EIGHT + ";009", -131);
        text(EIGHT + "9", -131);
    }

    static void promise2EndsTooSoonAnywhere() {
        for (int n = 0; n <= EIGHT.length(); n++) {
            text(EIGHT.substring(0, n), n % 4 == 3 && n > 3 ? (n + 1) / 4 : -100 - n);
        }
    }

    static void promise2WeightIs001AtLeast() {
        for (int x = 0; x < 8; x++) {
            int third = 4 * x + 2;
            text(EIGHT.substring(0, third) + '0' + EIGHT.substring(third + 1), -100 - third);
            text(EIGHT.substring(0, third) + '1' + EIGHT.substring(third + 1), 8);
        }
        text("000", -102);
        text("010;100", 2);
        Check.due("001", Check.with(1, 2).weight(0), 1);
    }

    static void promise2WeightIs999AtMost() {
        text("999;999", 2);
        Check.due("999", Check.with(1, 999).weight(1), 999);
        text("9999;001", -103);
        text("001;9990", -107);
    }

    static void promise2DigitsAre48To57() {
        String text = "345;678";
        for (int place = 0; place < 7; place++) {
            if (place != 3) {
                String ahead = text.substring(0, place);
                String behind = text.substring(place + 1);
                text(ahead + (char) 47 + behind, -100 - place);
                text(ahead + (char) 48 + behind, 2);
                text(ahead + (char) 57 + behind, 2);
                text(ahead + (char) 58 + behind, -100 - place);
                text(ahead + (char) 59 + behind, -100 - place);
            }
        }
    }

    static void promise2SemicolonIs59() {
        for (int code : new int[] {0, 48, 57, 58, 60}) {
            text("345" + (char) code + "678", -103);
            text("345;678" + (char) code + "901", -107);
        }
    }

    static void promise2TheFirstFaultOfSeveral() {
        text("3x5;000", -101);
        text("000;x", -102);
        text("345;000;;", -106);
        text("", -100);
        text(";", -100);
    }

    static void promise2PlacesAreThoseOfTheText() {
        ByHand x = new ByHand();
        Check.fill(x, 2, 1, 57, 57, 48, 48, 49, 59, 48, 97, 50, 57);
        Check.due("the place from 0 on", x.market(2, 1, 2, 7), -105);
        Check.due("how many there are", x.market(2, 1, 2, 5), -105);
        Check.due("how many of the TEXT, not of the SHEET", x.market(2, 1, 2, 4), -104);
        Check.due("none at the end", x.market(2, 1, 10, 0), -100);
        Check.due("one at the end", x.market(2, 1, 9, 1), -101);
        Check.due("set right", x.put(2, 7, 49), 1);
        Check.due("what is behind it is not of it", x.market(2, 1, 2, 7), 2);
        Check.due("its last WEIGHT", x.weight(1), 12);
    }

    static void promise2WhatIsAheadOfTheTextIsNotOfIt() {
        ByHand x = new ByHand();
        Check.fill(x, 2, 1, 48, 48, 48, 49, 59, 50, 51, 52, 59);
        Check.due("000 from 0 on", x.market(2, 1, 0, 8), -102);
        Check.due("001 from 1 on", x.market(2, 1, 1, 7), 2);
        Check.due("its first WEIGHT", x.weight(0), 1);
        Check.fill(x, 2, 1, 49, 48, 48, 48, 59, 50, 51, 52, 59);
        Check.due("000 from 1 on", x.market(2, 1, 1, 7), -102);
    }

    static void promise2CodesAreCutToTheSortOfTheirCells() {
        int[] more = {256, 65536, 0};
        for (int sort = 0; sort < 3; sort++) {
            ByHand x = new ByHand();
            Check.fill(x, 0, sort, 49 + more[sort], 48 - more[sort], 50, 59 + more[sort], 51, 52, 53);
            Check.due("market", x.market(0, sort, 0, 7), 2);
            Check.due("WEIGHT", x.weight(0), 102);
        }
        int[] beyond = {128, 256, 65536};
        for (int sort = 0; sort < 3; sort++) {
            ByHand x = new ByHand();
            Check.fill(x, 0, sort, 49, 48 + beyond[sort], 50, 59, 51, 52, 53);
            Check.due("no digit", x.market(0, sort, 0, 7), -101);
        }
    }

    static void promise2EverySheetAndSort() {
        for (int k = 0; k < 4; k++) {
            for (int sort = 0; sort < 3; sort++) {
                ByHand x = new ByHand();
                Check.fill(x, k, sort, 49, 48, 50, 59, 51, 52, 53);
                Check.due("market", x.market(k, sort, 0, 7), 2);
            }
        }
    }

    static void promise2TakenMakesThingsAnew() {
        ByHand x = Stand.full();
        Check.due("two THINGS", x.market(0, 0, 4, 7), 2);
        Check.due("the first", x.weight(0), 104);
        Check.due("the last", x.weight(1), 109);
        Check.due("none behind", x.weight(2), ByHand.UNKNOWN);
        Check.due("no FAULT", x.fault(), 0);
        x.hand(0, 1);
        Check.due("ALIKE are those two alone", x.alike(0, 0), 3);
    }

    static void promise2TakenForgetsHandsAndSayings() {
        ByHand x = Stand.full();
        x.market(0, 0, 0, 31);
        Check.due("no HANDS", x.many(1), 0);
        Check.due("no HAND 0", x.ofHand(0, 0), ByHand.UNKNOWN);
        Check.due("no SAYINGS", x.many(2), 0);
        Check.due("none FALSE", x.untrue(), 0);
        Check.due("none to take back", x.back(1), ByHand.OUTSIDE);
        Check.due("all WEIGHTS left", x.leaves(0, 0), 999);
        Check.due("HANDS from 0 on", x.hand(1, 7), 0);
        Check.due("SAYINGS from 0 on", x.saying(0, 0, 1, 0), 0);
    }

    static void promise2TakenLeavesSheetsAndTrace() {
        ByHand x = Stand.full();
        ByHand twin = Stand.full();
        int trace = x.trace();
        Check.due("taken", x.market(0, 0, 0, 31), 8);
        Check.due("TRACE", x.trace(), trace);
        for (int k = 0; k < 4; k++) {
            Check.holds("SHEET " + k, Stand.sheet(x, k).equals(Stand.sheet(twin, k)));
        }
    }

    static void promise2FirstFaultChangesNothing() {
        Stand.refusedOfFaults(-100, x -> x.market(0, 0, 0, 0));
        Stand.refusedOfFaults(-100, x -> x.market(0, 0, 31, 0));
        Stand.refusedOfFaults(-101, x -> x.market(0, 0, 30, 1));
        Stand.refusedOfFaults(-102, x -> x.market(0, 0, 1, 30));
        Stand.refusedOfFaults(-103, x -> x.market(0, 0, 0, 3));
        Stand.refusedOfFaults(-130, x -> x.market(0, 0, 0, 30));
    }

    static void promise2UnknownSheets() {
        for (int k : Stand.beside(0, 3)) {
            Stand.refusedOfFaults(ByHand.UNKNOWN, x -> x.market(k, 0, 0, 7));
        }
    }

    static void promise2OutsideSorts() {
        for (int sort : Stand.beside(0, 2)) {
            Stand.refusedOfFaults(ByHand.OUTSIDE, x -> x.market(0, sort, 0, 7));
        }
    }

    static void promise2RefusalsInTheirOrder() {
        Stand.refusedOfFaults(ByHand.UNKNOWN, x -> x.market(4, 3, -1, -1));
        Stand.refusedOfFaults(ByHand.OUTSIDE, x -> x.market(0, 3, -1, -1));
        Stand.refusedOfFaults(ByHand.OUTSIDE, x -> x.market(3, 3, -1, -1));
    }

    static void promise2NothingIsNoCast() {
        for (int s = 0; s < 3; s++) {
            int sort = s;
            Stand.faulty(Stand.NULL, x -> x.market(3, sort, -1, -1));
        }
    }

    static void promise2CastOfUnlikeSorts() {
        int[] sorts = {0, 2, 1};
        for (int k = 0; k < 3; k++) {
            for (int other = 1; other < 3; other++) {
                int sheet = k;
                int sort = (sorts[k] + other) % 3;
                Stand.faulty(Stand.CAST, x -> x.market(sheet, sort, -1, -1));
                Stand.faulty(Stand.CAST, x -> x.market(sheet, sort, 0, 1));
            }
        }
    }

    static void promise2SizeAheadOfIndex() {
        Stand.faulty(Stand.SIZE, x -> x.market(0, 0, 0, -1));
        Stand.faulty(Stand.SIZE, x -> x.market(0, 0, -1, -1));
        Stand.faulty(Stand.SIZE, x -> x.market(0, 0, 32, Stand.LEAST));
    }

    static void promise2IndexOfCellsThatAreNotThere() {
        Stand.faulty(Stand.INDEX, x -> x.market(0, 0, -1, 7));
        Stand.faulty(Stand.INDEX, x -> x.market(0, 0, 0, 32));
        Stand.faulty(Stand.INDEX, x -> x.market(0, 0, 1, 31));
        Stand.faulty(Stand.INDEX, x -> x.market(0, 0, 31, 1));
        Stand.faulty(Stand.INDEX, x -> x.market(0, 0, 1, Stand.MOST));
        Stand.faulty(Stand.INDEX, x -> x.market(0, 0, Stand.MOST, 1));
        Stand.faulty(Stand.INDEX, x -> x.market(0, 0, Stand.MOST, Stand.MOST));
        Stand.faulty(Stand.INDEX, x -> x.market(0, 0, Stand.LEAST, 7));
    }

    static void promise2IndexIfNoneIsTaken() {
        Stand.faulty(Stand.INDEX, x -> x.market(0, 0, -1, 0));
        Stand.faulty(Stand.INDEX, x -> x.market(0, 0, 32, 0));
        Stand.faulty(Stand.INDEX, x -> x.market(0, 0, Stand.LEAST, 0));
        Stand.faulty(Stand.INDEX, x -> x.market(0, 0, Stand.MOST, 0));
        ByHand empty = new ByHand();
        empty.sheet(0, 0, 0);
        Check.due("0 of none", empty.market(0, 0, 0, 0), -100);
        Check.due("1 of none", empty.market(0, 0, 1, 0), -13);
        Check.due("-1 of none", empty.market(0, 0, -1, 0), -13);
    }

    static void promise3ThingsFrom0ToOneLessThanThereAre() {
        ByHand two = Check.with(7, 8);
        ByHand eight = Stand.full();
        Check.due("the first of two", two.weight(0), 7);
        Check.due("the last of two", two.weight(1), 8);
        Check.due("behind two", two.weight(2), ByHand.UNKNOWN);
        Check.due("the first of eight", eight.weight(0), 100);
        Check.due("the last of eight", eight.weight(7), 999);
        for (int thing : Stand.beside(0, 7)) {
            Stand.refused(ByHand.UNKNOWN, x -> x.weight(thing));
        }
    }

    static void promise4WeightsFrom1To999() {
        ByHand x = Check.with(7, 8);
        Check.due("what it was in the TEXT", x.weigh(0, 1), 7);
        Check.due("1", x.weight(0), 1);
        Check.due("what it was", x.weigh(0, 999), 1);
        Check.due("999", x.weight(0), 999);
        Check.due("to the same", x.weigh(0, 999), 999);
        Check.due("the other one stays", x.weight(1), 8);
        for (int v : Stand.beside(1, 999)) {
            Stand.refused(ByHand.OUTSIDE, y -> y.weigh(0, v));
        }
    }

    static void promise4UnknownAheadOfOutside() {
        for (int thing : Stand.beside(0, 7)) {
            Stand.refused(ByHand.UNKNOWN, x -> x.weigh(thing, 5));
            Stand.refused(ByHand.UNKNOWN, x -> x.weigh(thing, 0));
        }
        Check.due("behind two", Check.with(7, 8).weigh(2, 1000), ByHand.UNKNOWN);
    }

    static void promise4HandsAndSayingsStay() {
        ByHand x = Stand.full();
        Check.due("the last THING", x.weigh(7, 1), 999);
        Check.due("HANDS", x.many(1), 6);
        Check.due("SAYINGS", x.many(2), 10);
        Check.due("fault()", x.fault(), Stand.INDEX);
    }
}
