/** The edges of promises 18 to 25: ROWS, LONGEST, CROWD, MEASURE, COPIES, BEST ROW, EVEN and odds. */
public final class RowsEdgesTest {
    public static void main(String[] args) throws ReflectiveOperationException {
        Check.all(RowsEdgesTest.class);
    }

    private static ByHand with(int kind, int part, int... weights) {
        ByHand x = Check.with(weights);
        x.hand(kind, part);
        return x;
    }

    private static ByHand eight(int kind, int part) {
        return with(kind, part, 100, 100, 100, 100, 100, 100, 100, 100);
    }

    private static ByHand eightTold() {
        return with(0, 20, 999, 729, 243, 81, 27, 9, 3, 1);
    }

    private static void rows(ByHand x, int many, int... row) {
        Check.due("how many", x.rows(0, -1), many);
        for (int q = 0; q < row.length; q++) {
            Check.due("the one of " + q, x.rows(0, q), row[q]);
        }
    }

    static void promise18AllOrdersAndJustOne() {
        rows(eight(0, 1), 40320, 0, 1, 2, 3, 4, 5, 6, 7);
        rows(eightTold(), 1, 7, 6, 5, 4, 3, 2, 1, 0);
        rows(with(0, 1, 1, 1), 2, 0, 1);
        rows(with(0, 1, 3, 1), 1, 1, 0);
    }

    static void promise18NoneAnywhereBehindAHeavierOne() {
        rows(with(0, 20, 100, 105, 106), 3, 0, 1, 2);
        rows(with(0, 20, 106, 105, 100), 3, 1, 2, 0);
        rows(with(0, 20, 106, 100, 105), 3, 1, 0, 2);
    }

    static void promise18AskedAgainAndByOtherWeights() {
        ByHand x = eightTold();
        rows(x, 1, 7, 6, 5, 4, 3, 2, 1, 0);
        rows(x, 1, 7, 6, 5, 4, 3, 2, 1, 0);
        x.weigh(6, 1);
        rows(x, 2, 6, 7, 5, 4, 3, 2, 1, 0);
        x.weigh(0, 1);
        rows(x, 6, 0, 6, 7, 5, 4, 3, 2, 1);
        x.hand(0, 1);
        Check.due("by a coarser HAND of the same", x.rows(1, -1), 6);
        x.weigh(5, 2);
        Check.due("of which one more is ALIKE", x.rows(1, -1), 24);
        Check.due("but not by the first one", x.rows(0, -1), 6);
    }

    static void promise18JustAsMuch() {
        rows(with(0, 20, 105, 100), 2, 0, 1);
        rows(with(0, 20, 106, 100), 1, 1, 0);
        rows(with(1, 10, 105, 100), 2, 0, 1);
        rows(with(1, 10, 106, 100), 1, 1, 0);
        rows(with(2, 10, 104, 100), 2, 0, 1);
        rows(with(2, 10, 105, 100), 1, 1, 0);
    }

    static void promise18QFromMinusOneToOneLessThanThings() {
        ByHand two = with(0, 1, 1, 1);
        Check.due("the last of two", two.rows(0, 1), 1);
        Check.due("behind two", two.rows(0, 2), ByHand.UNKNOWN);
        Check.due("the last of eight", eightTold().rows(0, 7), 0);
        for (int q : Stand.beside(-1, 7)) {
            Stand.refused(ByHand.UNKNOWN, x -> x.rows(5, q));
        }
    }

    static void promise18UnknownHands() {
        for (int h : Stand.beside(0, 5)) {
            Stand.refused(ByHand.UNKNOWN, x -> x.rows(h, -1));
        }
    }

    static void promise19FromOneToEight() {
        Check.due("none told", eight(0, 20).longest(0), 1);
        Check.due("all told", eightTold().longest(0), 8);
        Check.due("one of two", with(0, 1, 2, 1).longest(0), 1);
        Check.due("two of two", with(0, 1, 3, 1).longest(0), 2);
    }

    static void promise19EachFromTheOneAhead() {
        Check.due("from the next but one", with(0, 20, 105, 100, 115, 110).longest(0), 2);
        Check.due("from the next one", with(0, 20, 112, 100, 118, 106).longest(0), 4);
        Check.due("by a STEADY one just as much", with(1, 10, 100, 105).longest(0), 1);
        Check.due("by a SMITH just as much", with(2, 10, 100, 105).longest(0), 2);
    }

    static void promise19OfSeveralAlikeOnesOneAlone() {
        Check.due("three, lighter ones first", with(0, 20, 100, 100, 100, 100, 106, 106, 106, 112).longest(0), 3);
        ByHand x = with(0, 20, 112, 106, 106, 106, 100, 100, 100, 100);
        Check.due("three, heavier ones first", x.longest(0), 3);
        Check.due("asked again", x.longest(0), 3);
        x.weigh(0, 106);
        Check.due("two", x.longest(0), 2);
        for (int thing = 0; thing < 4; thing++) {
            x.weigh(thing, 100);
        }
        Check.due("one", x.longest(0), 1);
    }

    static void promise19UnknownHands() {
        for (int h : Stand.beside(0, 5)) {
            Stand.refused(ByHand.UNKNOWN, x -> x.longest(h));
        }
    }

    static void promise20FromOneToAll() {
        Check.due("the least one alone", eightTold().crowd(0), 0b00000001);
        Check.due("all", eight(0, 20).crowd(0), 0b11111111);
        Check.due("two of two", with(0, 1, 2, 1).crowd(0), 0b11);
        Check.due("one of two", with(0, 1, 3, 1).crowd(0), 0b01);
        ByHand x = eightTold();
        x.weigh(6, 1);
        Check.due("the last two", x.crowd(0), 0b11000000);
    }

    static void promise20TheLeastOfSeveral() {
        ByHand x = with(0, 10, 100, 110, 121, 133, 300, 300);
        Check.due("0 and 1", x.crowd(0), 0b000011);
        x.weigh(0, 121);
        Check.due("0, 1 and 2", x.crowd(0), 0b000111);
        x.weigh(1, 133);
        Check.due("0 to 3", x.crowd(0), 0b001111);
        x.weigh(3, 300);
        Check.due("the least of two by three", x.crowd(0), 0b000111);
    }

    static void promise20AllAlikeToOneAnother() {
        Check.due("not in a row of ALIKE ones", with(0, 10, 100, 110, 121).crowd(0), 0b011);
        Check.due("just as much", with(1, 10, 100, 105, 105).crowd(0), 0b111);
        Check.due("just as much by a SMITH", with(2, 10, 100, 105, 105).crowd(0), 0b110);
    }

    static void promise20UnknownHands() {
        for (int h : Stand.beside(0, 5)) {
            Stand.refused(ByHand.UNKNOWN, x -> x.crowd(h));
        }
    }

    private static void measure(ByHand x, int thing, int many) {
        Check.due("the THING", x.measure(0, 0), thing);
        Check.due("how many others", x.measure(0, 1), many);
    }

    static void promise21FromNoneToAllOthers() {
        measure(eightTold(), 0, 0);
        measure(eight(0, 20), 0, 7);
        measure(with(0, 1, 3, 1), 0, 0);
        measure(with(0, 1, 2, 1), 0, 1);
    }

    static void promise21TheLeastOfSeveral() {
        measure(with(0, 10, 300, 100, 110, 121, 133), 2, 2);
        measure(with(0, 10, 300, 121, 100, 133, 110), 1, 2);
        ByHand x = eightTold();
        x.weigh(6, 1);
        measure(x, 6, 1);
        x.weigh(5, 999);
        measure(x, 0, 1);
    }

    static void promise21WhatIs0Or1() {
        for (int what : Stand.beside(0, 1)) {
            Stand.refused(ByHand.OUTSIDE, x -> x.measure(5, what));
        }
    }

    static void promise21UnknownAheadOfOutside() {
        for (int h : Stand.beside(0, 5)) {
            Stand.refused(ByHand.UNKNOWN, x -> x.measure(h, 0));
            Stand.refused(ByHand.UNKNOWN, x -> x.measure(h, 2));
        }
    }

    private static void copies(ByHand x, int weight, int i, int n, int greatest, int least) {
        String call = "of " + weight + " by " + n + " from " + i + " on: ";
        Check.due(call + "the greatest", x.copies(weight, 1, 2, i, n, 0), greatest);
        Check.due(call + "the least", x.copies(weight, 1, 2, i, n, 1), least);
        Check.due("fault() behind it", x.fault(), 0);
    }

    static void promise22FromOneHandToFive() {
        ByHand x = Stand.full();
        copies(x, 100, 0, 1, 110, 91);
        copies(x, 100, 0, 2, 115, 87);
        copies(x, 100, 0, 3, 120, 83);
        copies(x, 100, 0, 4, 240, 42);
        copies(x, 100, 0, 5, 279, 37);
        copies(x, 100, 5, 1, 105, 96);
        for (int n : new int[] {0, 6}) {
            Stand.refusedOfFaults(ByHand.OUTSIDE, y -> y.copies(100, 1, 2, 0, n, 0));
        }
        Stand.refusedOfFaults(ByHand.OUTSIDE, y -> y.copies(100, 1, 2, 0, 8, 0));
        Stand.refusedOfFaults(ByHand.OUTSIDE, y -> y.copies(100, 1, 2, 8, 0, 0));
    }

    static void promise22WeightsFrom1To999() {
        ByHand x = Stand.full();
        copies(x, 1, 0, 5, 2, 1);
        copies(x, 1, 3, 1, 2, 1);
        copies(x, 999, 3, 1, 1998, 500);
        copies(x, 999, 0, 1, 1098, 909);
        for (int weight : Stand.beside(1, 999)) {
            Stand.refusedOfFaults(ByHand.OUTSIDE, y -> y.copies(weight, 1, 2, 0, 1, 0));
        }
    }

    static void promise22TheLeastIsOneAtLeast() {
        for (int kind = 0; kind < 3; kind++) {
            ByHand x = with(kind, 1, 1, 2);
            Check.fill(x, 1, 2, 0, 0, 0, 0, 0);
            for (int n = 1; n <= 5; n++) {
                Check.due("of 1", x.copies(1, 1, 2, 0, n, 1), 1);
                Check.due("of 2 by a HAND and others", x.copies(2, 1, 2, 0, n, 1), kind == 0 ? 1 : 2);
            }
        }
    }

    static void promise22TheGreatestHasNoMost() {
        ByHand x = with(0, 1, 1, 2);
        Check.fill(x, 1, 2, 0, 0, 0, 0, 0);
        copies(x, 999, 0, 5, 31968, 32);
        copies(x, 1, 0, 5, 32, 1);
    }

    /** By one HAND: what it does not TELL, and beside it what it TELLS. */
    static void promise22NotToldAndToldBesideIt() {
        for (int part : new int[] {1, 2, 7, 19, 20}) {
            for (int kind = 0; kind < 3; kind++) {
                ByHand x = with(kind, part, 1, 2);
                Check.fill(x, 1, 2, 0);
                for (int v : new int[] {1, 2, part, part + 1, 2 * part, 2 * part + 1, 100, 840, 998, 999}) {
                    int greatest = x.copies(v, 1, 2, 0, 1, 0);
                    int least = x.copies(v, 1, 2, 0, 1, 1);
                    Check.due("the greatest of " + v, x.tells(0, greatest, v), 0);
                    Check.due("one more", x.tells(0, greatest + 1, v), 1);
                    Check.due("the least of " + v, x.tells(0, v, least), 0);
                    Check.due("one less", least == 1 ? 1 : x.tells(0, v, least - 1), 1);
                }
            }
        }
    }

    static void promise22HandsInTurn() {
        ByHand x = Stand.full();
        Check.fill(x, 1, 2, 0, 1, 2, 2, 0, 1);
        copies(x, 100, 0, 3, 120, 83);
        copies(x, 100, 3, 3, 119, 84);
    }

    static void promise22CellsAreCutToTheirSort() {
        int[] more = {256, 65536, 0};
        for (int sort = 0; sort < 3; sort++) {
            ByHand x = Stand.full();
            Check.fill(x, 3, sort, more[sort], 5 - more[sort], 65536 * 256 + 1);
            Check.due("HAND 0", x.copies(100, 3, sort, 0, 1, 0), 110);
            Check.due("HAND 5", x.copies(100, 3, sort, 1, 1, 0), 200);
            Check.due("HAND 1 or none", x.copies(100, 3, sort, 2, 1, 0), sort == 2 ? ByHand.UNKNOWN : 105);
        }
    }

    static void promise22WhatIs0Or1() {
        for (int what : Stand.beside(0, 1)) {
            Stand.refusedOfFaults(ByHand.OUTSIDE, x -> x.copies(100, 1, 2, 0, 1, what));
        }
    }

    static void promise22UnknownHands() {
        Stand.refusedOfFaults(ByHand.UNKNOWN, x -> x.copies(100, 1, 2, 6, 1, 0));
        Stand.refusedOfFaults(ByHand.UNKNOWN, x -> x.copies(100, 1, 2, 7, 1, 0));
        Stand.refusedOfFaults(ByHand.UNKNOWN, x -> x.copies(100, 1, 2, 5, 2, 1));
        Stand.refusedOfFaults(ByHand.UNKNOWN, x -> x.copies(100, 1, 2, 2, 5, 1));
        for (int h : Stand.beside(0, 5)) {
            ByHand x = Stand.full();
            Check.fill(x, 1, 2, 0, 5, h, 0);
            Check.due("ahead of it", x.copies(100, 1, 2, 0, 2, 1), 46);
            Check.due("behind it", x.copies(100, 1, 2, 3, 1, 1), 91);
            Check.due("first", x.copies(100, 1, 2, 2, 2, 1), ByHand.UNKNOWN);
            Check.due("last", x.copies(100, 1, 2, 0, 3, 1), ByHand.UNKNOWN);
        }
        ByHand none = Check.with(1, 2);
        Check.fill(none, 1, 2, 0);
        Check.due("of none", none.copies(1, 1, 2, 0, 1, 0), ByHand.UNKNOWN);
    }

    static void promise22RefusalsInTheirOrder() {
        for (int k : Stand.beside(0, 3)) {
            Stand.refusedOfFaults(ByHand.UNKNOWN, x -> x.copies(0, k, 3, -1, -1, 2));
        }
        for (int sort : Stand.beside(0, 2)) {
            Stand.refusedOfFaults(ByHand.OUTSIDE, x -> x.copies(100, 1, sort, -1, -1, 0));
        }
        Stand.refusedOfFaults(ByHand.OUTSIDE, x -> x.copies(0, 1, 0, -1, -1, 0));
        Stand.refusedOfFaults(ByHand.OUTSIDE, x -> x.copies(1000, 3, 0, -1, -1, 0));
        Stand.refusedOfFaults(ByHand.OUTSIDE, x -> x.copies(100, 1, 2, -1, -1, 2));
        Stand.refusedOfFaults(ByHand.OUTSIDE, x -> x.copies(100, 1, 2, 2, 6, 0));
    }

    static void promise22FaultsInTheirOrder() {
        for (int s = 0; s < 3; s++) {
            int sort = s;
            Stand.faulty(Stand.NULL, x -> x.copies(100, 3, sort, -1, -1, 0));
        }
        Stand.faulty(Stand.CAST, x -> x.copies(100, 1, 0, -1, -1, 0));
        Stand.faulty(Stand.CAST, x -> x.copies(100, 1, 1, 0, 1, 0));
        Stand.faulty(Stand.SIZE, x -> x.copies(100, 1, 2, -1, -1, 0));
        Stand.faulty(Stand.SIZE, x -> x.copies(100, 1, 2, 0, Stand.LEAST, 0));
    }

    static void promise22IndexAheadOfHowManyAndOfHands() {
        int[][] cells = {{-1, 1}, {8, 1}, {0, 9}, {4, 5}, {6, 3}, {1, 8}, {-1, 0}, {9, 0}, {-1, 6}, {3, 6},
            {1, Stand.MOST}, {Stand.MOST, 5}, {Stand.LEAST, 5}, {Stand.MOST, 0}};
        for (int[] c : cells) {
            Stand.faulty(Stand.INDEX, x -> x.copies(100, 1, 2, c[0], c[1], 0));
        }
    }

    private static void best(ByHand x, int weight, int n, int spread, int... row) {
        Check.due("what it leaves", x.bestRow(weight, 1, 2, 0, n, -1), spread);
        for (int q = 0; q < n; q++) {
            Check.due("the one of " + q, x.bestRow(weight, 1, 2, 0, n, q), row[q]);
        }
        Check.due("behind the last", x.bestRow(weight, 1, 2, 0, n, n), ByHand.UNKNOWN);
    }

    static void promise23FromOneHandToFive() {
        ByHand x = Stand.full();
        best(x, 100, 1, 19, 0);
        best(x, 100, 2, 27, 1, 0);
        best(x, 100, 3, 35, 2, 0, 1);
        best(x, 100, 4, 196, 2, 0, 1, 5);
        Check.due("by five", x.bestRow(100, 1, 2, 0, 5, -1), 239);
        for (int n : new int[] {0, 6, 8}) {
            Stand.refusedOfFaults(ByHand.OUTSIDE, y -> y.bestRow(100, 1, 2, 0, n, -1));
        }
        Stand.refusedOfFaults(ByHand.OUTSIDE, y -> y.bestRow(100, 1, 2, 8, 0, -1));
    }

    static void promise23TheFirstOfSeveralRows() {
        ByHand x = Stand.full();
        Check.fill(x, 1, 2, 4, 2, 3, 1, 0);
        best(x, 1, 5, 0, 0, 1, 2, 3, 4);
        Check.fill(x, 1, 2, 3, 3, 1, 3, 1);
        best(x, 1, 5, 0, 1, 1, 3, 3, 3);
        Check.fill(x, 1, 2, 5, 5, 5, 5, 5);
        best(x, 1, 5, 31, 5, 5, 5, 5, 5);
    }

    static void promise23TheLastRowMayBeTheBest() {
        ByHand x = Check.with(1, 2);
        int[][] hands = {{1, 16}, {0, 15}, {0, 9}, {2, 4}, {2, 15}};
        for (int[] hand : hands) {
            x.hand(hand[0], hand[1]);
        }
        Check.fill(x, 1, 2, 0, 1, 2, 3, 4);
        best(x, 860, 5, 609, 4, 3, 2, 1, 0);
        Check.fill(x, 1, 2, 4, 3, 2, 1, 0);
        best(x, 860, 5, 609, 4, 3, 2, 1, 0);
        Check.due("that row laid", x.copies(860, 1, 2, 0, 5, 0) - x.copies(860, 1, 2, 0, 5, 1), 609);
    }

    /** As above with HANDS that stand in the row more than once. */
    static void promise23TheLastRowOfAlikeHandsMayBeTheBest() {
        int[][] hands = {{0, 4, 1, 1, 1, 20}, {2, 6, 2, 19, 1, 15}, {1, 14, 0, 3, 2, 10}, {0, 7, 2, 1, 1, 18}};
        int[][] rows = {{2, 1, 1, 0, 0}, {2, 2, 1, 1, 0}, {1, 1, 0, 0, 0}, {2, 2, 1, 0, 0}};
        int[] weights = {306, 242, 92, 280};
        int[] spreads = {1010, 90, 129, 436};
        for (int run = 0; run < hands.length; run++) {
            ByHand x = Check.with(1, 2);
            for (int h = 0; h < 6; h += 2) {
                x.hand(hands[run][h], hands[run][h + 1]);
            }
            int[] row = rows[run];
            Check.fill(x, 1, 2, row);
            best(x, weights[run], 5, spreads[run], row);
            Check.fill(x, 1, 2, row[4], row[2], row[0], row[3], row[1]);
            best(x, weights[run], 5, spreads[run], row);
        }
    }

    static void promise23TheCellsStay() {
        ByHand x = Stand.full();
        String told = Stand.told(Stand.full());
        x.bestRow(100, 1, 2, 0, 5, 4);
        Check.holds("all stays", Stand.told(x).equals(told));
    }

    static void promise23WeightsFrom1To999() {
        ByHand x = Stand.full();
        best(x, 1, 1, 0, 0);
        best(x, 999, 1, 1098 - 909, 0);
        for (int weight : Stand.beside(1, 999)) {
            Stand.refusedOfFaults(ByHand.OUTSIDE, y -> y.bestRow(weight, 1, 2, 0, 1, -1));
        }
    }

    static void promise23QFromMinusOneToOneLessThanHands() {
        for (int q : Stand.beside(-1, 2)) {
            Stand.refusedOfFaults(ByHand.UNKNOWN, x -> x.bestRow(100, 1, 2, 0, 3, q));
        }
        for (int q : Stand.beside(-1, 4)) {
            Stand.refusedOfFaults(ByHand.UNKNOWN, x -> x.bestRow(100, 1, 2, 0, 5, q));
        }
    }

    static void promise23UnknownHands() {
        Stand.refusedOfFaults(ByHand.UNKNOWN, x -> x.bestRow(100, 1, 2, 6, 1, -1));
        Stand.refusedOfFaults(ByHand.UNKNOWN, x -> x.bestRow(100, 1, 2, 7, 1, 0));
        Stand.refusedOfFaults(ByHand.UNKNOWN, x -> x.bestRow(100, 1, 2, 2, 5, -1));
        Stand.refusedOfFaults(ByHand.UNKNOWN, x -> x.bestRow(100, 1, 2, 5, 2, 0));
    }

    static void promise23RefusalsInTheirOrder() {
        for (int k : Stand.beside(0, 3)) {
            Stand.refusedOfFaults(ByHand.UNKNOWN, x -> x.bestRow(0, k, 3, -1, -1, -2));
        }
        for (int sort : Stand.beside(0, 2)) {
            Stand.refusedOfFaults(ByHand.OUTSIDE, x -> x.bestRow(100, 1, sort, -1, -1, -2));
        }
        Stand.refusedOfFaults(ByHand.OUTSIDE, x -> x.bestRow(0, 1, 0, -1, -1, -2));
        Stand.refusedOfFaults(ByHand.OUTSIDE, x -> x.bestRow(1000, 3, 0, -1, -1, -2));
        Stand.refusedOfFaults(ByHand.OUTSIDE, x -> x.bestRow(100, 1, 2, 2, 6, 6));
        Stand.refusedOfFaults(ByHand.OUTSIDE, x -> x.bestRow(100, 1, 2, 0, 0, 0));
    }

    static void promise23FaultsInTheirOrder() {
        for (int s = 0; s < 3; s++) {
            int sort = s;
            Stand.faulty(Stand.NULL, x -> x.bestRow(100, 3, sort, -1, -1, -2));
        }
        Stand.faulty(Stand.CAST, x -> x.bestRow(100, 1, 0, -1, -1, -2));
        Stand.faulty(Stand.CAST, x -> x.bestRow(100, 1, 1, 0, 1, 0));
        Stand.faulty(Stand.SIZE, x -> x.bestRow(100, 1, 2, -1, -1, -2));
        Stand.faulty(Stand.SIZE, x -> x.bestRow(100, 1, 2, 0, Stand.LEAST, 0));
    }

    static void promise23IndexAheadOfHowManyAndOfHands() {
        int[][] cells = {{-1, 1}, {8, 1}, {0, 9}, {4, 5}, {6, 3}, {1, 8}, {-1, 0}, {9, 0}, {-1, 6}, {3, 6},
            {1, Stand.MOST}, {Stand.MOST, 5}, {Stand.LEAST, 5}, {Stand.MOST, 0}};
        for (int[] c : cells) {
            Stand.faulty(Stand.INDEX, x -> x.bestRow(100, 1, 2, c[0], c[1], -2));
        }
    }

    private static void even(ByHand x, int first, int other) {
        Check.due("the first set", x.even(0, 0), first);
        Check.due("the other one", x.even(0, 1), other);
    }

    static void promise24None() {
        even(with(0, 20, 100, 106), ByHand.NONE, ByHand.NONE);
        // Each is told heavier than all lesser ones together.
        even(with(0, 20, 900, 340, 130, 50, 19, 7, 3, 1), ByHand.NONE, ByHand.NONE);
        even(with(0, 20, 900, 340, 130, 50, 19, 7, 3, 3), 0b01000000, 0b10000000);
    }

    static void promise24OneInEach() {
        even(with(0, 20, 100, 105), 0b01, 0b10);
        even(with(0, 20, 105, 100), 0b01, 0b10);
        even(with(2, 10, 104, 100), 0b01, 0b10);
        even(with(2, 10, 105, 100), ByHand.NONE, ByHand.NONE);
    }

    static void promise24AllEight() {
        even(eight(0, 20), 0b00001111, 0b11110000);
        even(eight(1, 1), 0b00001111, 0b11110000);
        // By PART 1 five are not told from three, but six are from two.
        even(eight(0, 1), 0b00000111, 0b11111000);
    }

    static void promise24WeightsTogetherJustAsMuch() {
        even(with(0, 20, 100, 100, 210), 0b011, 0b100);
        even(with(0, 20, 100, 100, 211), 0b001, 0b010);
        even(with(1, 10, 100, 100, 210), 0b011, 0b100);
        even(with(2, 10, 100, 100, 209), 0b011, 0b100);
        even(with(2, 10, 100, 100, 210), 0b001, 0b010);
    }

    static void promise24TheLeastFirstSetThenTheLeastOther() {
        even(with(0, 20, 900, 100, 100, 100), 0b0010, 0b0100);
        even(with(0, 20, 100, 900, 100, 100), 0b0001, 0b0100);
        even(with(0, 20, 100, 300, 200, 200), 0b0011, 0b1100);
        // 0 and 3, or 1 and 2: the first set of these is 1 or 2.
        even(with(0, 20, 100, 300, 300, 100), 0b0011, 0b1100);
        even(with(0, 20, 1, 30, 30, 1, 900), 0b00011, 0b01100);
    }

    static void promise24TheLesserSetAsBitsIsTheFirst() {
        even(with(0, 20, 300, 100, 200), 0b001, 0b110);
        even(with(0, 20, 100, 300, 200), 0b010, 0b101);
        even(with(0, 20, 100, 200, 300), 0b011, 0b100);
    }

    static void promise24WhatIs0Or1() {
        for (int what : Stand.beside(0, 1)) {
            Stand.refused(ByHand.OUTSIDE, x -> x.even(5, what));
        }
    }

    static void promise24UnknownAheadOfOutside() {
        for (int h : Stand.beside(0, 5)) {
            Stand.refused(ByHand.UNKNOWN, x -> x.even(h, 0));
            Stand.refused(ByHand.UNKNOWN, x -> x.even(h, 2));
        }
    }

    private static void odds(ByHand x, int upper, int lower) {
        Check.due("the upper number", x.odds(0, 0), upper);
        Check.due("the lower number", x.odds(0, 1), lower);
    }

    static void promise25NoneAndAllPairs() {
        odds(with(0, 1, 2, 1), 0, 1);
        odds(with(0, 1, 3, 1), 1, 1);
        odds(eight(0, 20), 0, 1);
        odds(eightTold(), 1, 1);
    }

    static void promise25InLeastTerms() {
        ByHand x = eight(0, 20);
        x.weigh(7, 106);
        odds(x, 1, 4);
        x.weigh(0, 94);
        odds(x, 13, 28);
        x = with(0, 20, 100, 106, 100, 106, 100, 106, 100, 106);
        odds(x, 4, 7);
        odds(with(0, 20, 100, 105, 106), 1, 3);
        odds(with(2, 10, 100, 105, 106), 2, 3);
        odds(with(0, 20, 100, 100, 106, 106), 2, 3);
        odds(with(0, 20, 100, 105, 105, 106), 1, 6);
    }

    static void promise25ByWeightsAsTheyAre() {
        ByHand x = with(0, 20, 100, 106, 112, 118);
        odds(x, 1, 1);
        odds(x, 1, 1);
        x.weigh(3, 112);
        odds(x, 5, 6);
        x.weigh(2, 106);
        odds(x, 5, 6);
        x.weigh(3, 106);
        odds(x, 1, 2);
        x.weigh(0, 106);
        odds(x, 0, 1);
    }

    static void promise25WhichIs0Or1() {
        for (int which : Stand.beside(0, 1)) {
            Stand.refused(ByHand.LOST, x -> x.odds(5, which));
        }
    }

    static void promise25UnknownHands() {
        for (int h : Stand.beside(0, 5)) {
            Stand.refused(ByHand.LOST, x -> x.odds(h, 0));
            Stand.refused(ByHand.LOST, x -> x.odds(h, 2));
        }
    }
}
