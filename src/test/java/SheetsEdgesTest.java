/** The edges of promises 26 to 36: SHEETS, TELLING, TRACE, FAULTS and how many there are. */
public final class SheetsEdgesTest {
    public static void main(String[] args) throws ReflectiveOperationException {
        Check.all(SheetsEdgesTest.class);
    }

    static void promise26From0To40Numbers() {
        for (int sort = 0; sort < 3; sort++) {
            ByHand x = new ByHand();
            Check.due("none", x.sheet(0, sort, 0), 1);
            Check.due("has no cell", x.put(0, 0, 1), -13);
            Check.due("forty", x.sheet(1, sort, 40), 1);
            Check.due("the last cell", x.put(1, 39, 1), 1);
            Check.due("no more", x.put(1, 40, 1), -13);
        }
        for (int n : new int[] {41, Stand.MOST}) {
            Stand.refusedOfFaults(ByHand.OUTSIDE, x -> x.sheet(1, 2, n));
        }
    }

    static void promise26SizeBelow0() {
        for (int n : new int[] {-1, Stand.LEAST}) {
            Stand.faulty(Stand.SIZE, x -> x.sheet(1, 2, n));
            Stand.faulty(Stand.SIZE, x -> x.sheet(3, 0, n));
        }
    }

    static void promise26All0AtFirst() {
        for (int sort = 0; sort < 3; sort++) {
            ByHand x = new ByHand();
            x.sheet(0, sort, 40);
            for (int i = 0; i < 40; i++) {
                Check.due("0", x.cell(0, i, sort), 0);
                x.put(0, i, 7);
            }
            x.sheet(0, sort, 20);
            x.sheet(0, sort, 40);
            for (int i = 0; i < 40; i++) {
                Check.due("0 anew", x.cell(0, i, sort), 0);
            }
        }
    }

    static void promise26ARowOfNoneIsSomething() {
        ByHand x = new ByHand();
        x.sheet(2, 1, 0);
        Check.due("INDEX, not NULL", x.cell(2, 0, 1), ByHand.LOST);
        Check.due("fault()", x.fault(), Stand.INDEX);
        Check.due("CAST, not NULL", x.market(2, 0, 0, 0), -12);
        Check.due("something to lose", x.lose(2), 1);
    }

    static void promise26SheetsFrom0To3() {
        ByHand x = new ByHand();
        for (int k = 0; k < 4; k++) {
            Check.due("taken", x.sheet(k, 0, k + 1), 1);
        }
        for (int k = 0; k < 4; k++) {
            Check.due("its last cell", x.cell(k, k, 0), 0);
            Check.due("none behind", x.cell(k, k + 1, 0), ByHand.LOST);
        }
        for (int k : Stand.beside(0, 3)) {
            Stand.refusedOfFaults(ByHand.UNKNOWN, y -> y.sheet(k, 0, 1));
        }
    }

    static void promise26SortsFrom0To2() {
        for (int sort = 0; sort < 3; sort++) {
            ByHand x = Stand.full();
            Check.due("taken", x.sheet(1, sort, 1), 1);
            Check.due("of its SORT", x.cell(1, 0, sort), 0);
            Check.due("of no other", x.cell(1, 0, (sort + 1) % 3), ByHand.LOST);
            Check.due("CAST", x.fault(), Stand.CAST);
        }
        for (int sort : Stand.beside(0, 2)) {
            Stand.refusedOfFaults(ByHand.OUTSIDE, x -> x.sheet(1, sort, 1));
        }
    }

    static void promise26RefusalsInTheirOrder() {
        Stand.refusedOfFaults(ByHand.UNKNOWN, x -> x.sheet(4, 3, 41));
        Stand.refusedOfFaults(ByHand.UNKNOWN, x -> x.sheet(-1, 0, -1));
        Stand.refusedOfFaults(ByHand.OUTSIDE, x -> x.sheet(1, 3, -1));
        Stand.refusedOfFaults(ByHand.OUTSIDE, x -> x.sheet(1, -1, -1));
    }

    static void promise26TakenComesToNone() {
        ByHand x = Stand.full();
        Check.due("a new row", x.sheet(1, 2, 0), 1);
        Check.due("fault()", x.fault(), 0);
    }

    static void promise27NothingAndSomething() {
        for (int k = 0; k < 4; k++) {
            ByHand x = new ByHand();
            Check.due("it had nothing", x.lose(k), 0);
            x.sheet(k, 0, 0);
            Check.due("it had a row of none", x.lose(k), 1);
            Check.due("it has nothing", x.lose(k), 0);
            x.sheet(k, 2, 40);
            Check.due("it had a row", x.lose(k), 1);
            Check.due("NULL", x.put(k, 0, 0), -11);
        }
    }

    static void promise27OneAlone() {
        ByHand x = Stand.full();
        Check.due("lost", x.lose(1), 1);
        Check.due("the one ahead stays", x.cell(0, 0, 0), 49);
        Check.due("the one behind stays", x.cell(2, 2, 1), 9);
        x.sheet(1, 2, 8);
        Check.due("0 anew", x.cell(1, 3, 2), 0);
    }

    static void promise27UnknownSheets() {
        for (int k : Stand.beside(0, 3)) {
            Stand.refused(ByHand.UNKNOWN, x -> x.lose(k));
        }
        Stand.refused(0, x -> x.lose(3));
    }

    static void promise28CutToItsSort() {
        int[][] due = {
            // v, as a byte, as a short, as an int
            {127, 127, 127, 127}, {128, -128, 128, 128}, {-128, -128, -128, -128}, {-129, 127, -129, -129},
            {255, -1, 255, 255}, {256, 0, 256, 256}, {32767, -1, 32767, 32767}, {32768, 0, -32768, 32768},
            {-32768, 0, -32768, -32768}, {-32769, -1, 32767, -32769}, {65535, -1, -1, 65535}, {65536, 0, 0, 65536},
            {Stand.MOST, -1, -1, Stand.MOST}, {Stand.LEAST, 0, 0, Stand.LEAST}, {0, 0, 0, 0}, {-1, -1, -1, -1}};
        for (int[] row : due) {
            for (int sort = 0; sort < 3; sort++) {
                ByHand x = new ByHand();
                Check.fill(x, sort, sort, 5, row[0], 6);
                Check.due("cut of " + row[0] + " to " + sort, x.cell(sort, 1, sort), row[sort + 1]);
                Check.due("ahead of it", x.cell(sort, 0, sort), 5);
                Check.due("behind it", x.cell(sort, 2, sort), 6);
            }
        }
    }

    static void promise28CellsFrom0ToOneLessThanThereAre() {
        ByHand x = Stand.full();
        Check.due("the first", x.put(2, 0, 70), 1);
        Check.due("fault() becomes 0", x.fault(), 0);
        Check.due("the last", x.put(2, 2, 90), 1);
        Check.due("it is so", x.cell(2, 0, 1) * 100 + x.cell(2, 2, 1), 7090);
        for (int i : Stand.beside(0, 2)) {
            Stand.faulty(Stand.INDEX, y -> y.put(2, i, 5));
        }
        Stand.faulty(Stand.INDEX, y -> y.put(0, 31, 5));
    }

    static void promise28NullAheadOfIndex() {
        Stand.faulty(Stand.NULL, x -> x.put(3, 0, 5));
        Stand.faulty(Stand.NULL, x -> x.put(3, -1, 5));
    }

    static void promise28UnknownAheadOfFaults() {
        for (int k : Stand.beside(0, 3)) {
            Stand.refusedOfFaults(ByHand.UNKNOWN, x -> x.put(k, 0, 5));
            Stand.refusedOfFaults(ByHand.UNKNOWN, x -> x.put(k, -1, 5));
        }
    }

    static void promise29CellsFrom0ToOneLessThanThereAre() {
        ByHand x = Stand.full();
        Check.due("the first", x.cell(2, 0, 1), 7);
        Check.due("fault() becomes 0", x.fault(), 0);
        Check.due("the last", x.cell(2, 2, 1), 9);
        for (int i : Stand.beside(0, 2)) {
            Stand.faultyLong(Stand.INDEX, y -> y.cell(2, i, 1));
        }
        Stand.faultyLong(Stand.INDEX, y -> y.cell(0, 31, 0));
        Check.fill(x, 3, 2, Stand.LEAST, Stand.MOST);
        Check.due("the least number", x.cell(3, 0, 2), Stand.LEAST);
        Check.due("the greatest number", x.cell(3, 1, 2), Stand.MOST);
    }

    static void promise29NothingIsNoCast() {
        for (int s = 0; s < 3; s++) {
            int sort = s;
            Stand.faultyLong(Stand.NULL, x -> x.cell(3, 0, sort));
            Stand.faultyLong(Stand.NULL, x -> x.cell(3, -1, sort));
        }
    }

    static void promise29CastAheadOfIndex() {
        int[][] casts = {{0, 1}, {0, 2}, {1, 0}, {1, 1}, {2, 0}, {2, 2}};
        for (int[] cast : casts) {
            Stand.faultyLong(Stand.CAST, x -> x.cell(cast[0], 0, cast[1]));
            Stand.faultyLong(Stand.CAST, x -> x.cell(cast[0], -1, cast[1]));
        }
    }

    static void promise29RefusalsAheadOfFaults() {
        for (int k : Stand.beside(0, 3)) {
            Stand.refusedOfFaults(ByHand.LOST, x -> x.cell(k, -1, 0));
        }
        for (int sort : Stand.beside(0, 2)) {
            Stand.refusedOfFaults(ByHand.LOST, x -> x.cell(1, 0, sort));
            Stand.refusedOfFaults(ByHand.LOST, x -> x.cell(3, -1, sort));
        }
    }

    private static void cells(ByHand x, int k, int sort, int... due) {
        for (int i = 0; i < due.length; i++) {
            Check.due("cell " + i, x.cell(k, i, sort), due[i]);
        }
        Check.due("no more", x.cell(k, due.length, sort), ByHand.LOST);
    }

    private static ByHand twoRows() {
        ByHand x = new ByHand();
        Check.fill(x, 0, 1, 1, 2, 3, 4, 5);
        Check.fill(x, 3, 1, 6, 7, 8);
        return x;
    }

    static void promise30FromNoneToAll() {
        ByHand x = twoRows();
        Check.due("none", x.copy(0, 0, 3, 0, 0), 0);
        Check.due("none behind the last", x.copy(0, 5, 3, 3, 0), 0);
        Check.due("none to itself", x.copy(0, 5, 0, 5, 0), 0);
        cells(x, 0, 1, 1, 2, 3, 4, 5);
        cells(x, 3, 1, 6, 7, 8);
        Check.due("as many as the other one has", x.copy(0, 2, 3, 0, 3), 3);
        cells(x, 3, 1, 3, 4, 5);
        Check.due("the last one alone", x.copy(3, 2, 0, 4, 1), 1);
        Check.due("the first one alone", x.copy(3, 0, 0, 0, 1), 1);
        cells(x, 0, 1, 3, 2, 3, 4, 5);
        Check.due("all to itself", x.copy(0, 0, 0, 0, 5), 5);
        cells(x, 0, 1, 3, 2, 3, 4, 5);
    }

    static void promise30TheSameSheetAsTheyWere() {
        ByHand x = twoRows();
        Check.due("on", x.copy(0, 0, 0, 1, 4), 4);
        cells(x, 0, 1, 1, 1, 2, 3, 4);
        Check.due("back", x.copy(0, 2, 0, 0, 3), 3);
        cells(x, 0, 1, 2, 3, 4, 3, 4);
    }

    static void promise30TakenComesToNone() {
        ByHand x = Stand.full();
        Check.due("copy", x.copy(2, 0, 2, 1, 1), 1);
        Check.due("fault()", x.fault(), 0);
        cells(x, 2, 1, 7, 7, 9);
    }

    static void promise30SheetsFrom0To3() {
        for (int k : Stand.beside(0, 3)) {
            Stand.refusedOfFaults(ByHand.UNKNOWN, x -> x.copy(k, -1, 3, -1, -1));
            Stand.refusedOfFaults(ByHand.UNKNOWN, x -> x.copy(3, -1, k, -1, -1));
            Stand.refusedOfFaults(ByHand.UNKNOWN, x -> x.copy(k, 0, 1, 0, 0));
            Stand.refusedOfFaults(ByHand.UNKNOWN, x -> x.copy(1, 0, k, 0, 0));
        }
    }

    static void promise30NullOfTheFirstAndOfTheOther() {
        Stand.faulty(Stand.NULL, x -> x.copy(3, 0, 1, 0, 0));
        Stand.faulty(Stand.NULL, x -> x.copy(1, 0, 3, 0, 0));
        Stand.faulty(Stand.NULL, x -> x.copy(3, 0, 3, 0, 0));
        Stand.faulty(Stand.NULL, x -> x.copy(3, -1, 0, -1, -1));
        Stand.faulty(Stand.NULL, x -> x.copy(2, -1, 3, -1, -1));
    }

    static void promise30CastAheadOfIndex() {
        for (int k = 0; k < 3; k++) {
            int first = k;
            int other = (k + 1) % 3;
            Stand.faulty(Stand.CAST, x -> x.copy(first, 0, other, 0, 0));
            Stand.faulty(Stand.CAST, x -> x.copy(first, -1, other, -1, -1));
            Stand.faulty(Stand.CAST, x -> x.copy(other, 99, first, 99, 99));
        }
    }

    static void promise30IndexBelow0OrBeyond() {
        int[][] cells = {
            // i, j, n in the 8 cells of SHEET 1
            {-1, 0, 1}, {0, -1, 1}, {0, 0, -1}, {0, 0, 9}, {1, 0, 8}, {0, 1, 8}, {8, 0, 1}, {0, 8, 1}, {-1, 0, 0},
            {0, -1, 0}, {9, 0, 0}, {0, 9, 0}, {-1, -1, -1}, {8, 8, -1}, {0, 0, Stand.LEAST}, {0, 0, Stand.MOST},
            {1, 0, Stand.MOST}, {0, 1, Stand.MOST}, {Stand.MOST, 0, 1}, {0, Stand.MOST, 1}, {Stand.LEAST, 0, 1},
            {0, Stand.LEAST, 1}, {Stand.MOST, Stand.MOST, Stand.MOST}, {Stand.MOST, 0, 0}, {0, Stand.MOST, 0}};
        for (int[] c : cells) {
            Stand.faulty(Stand.INDEX, x -> x.copy(1, c[0], 1, c[1], c[2]));
        }
        ByHand x = twoRows();
        Check.due("more than the other one has", x.copy(0, 0, 3, 0, 4), -13);
        Check.due("more than the first one has", x.copy(3, 0, 0, 0, 4), -13);
        cells(x, 3, 1, 6, 7, 8);
    }

    private static ByHand hands(int part) {
        ByHand x = Check.with(1, 2);
        for (int kind = 0; kind < 3; kind++) {
            x.hand(kind, part);
        }
        return x;
    }

    static void promise31LeastAndGreatestPart() {
        for (int part : new int[] {1, 20}) {
            ByHand x = hands(part);
            Check.due("a HAND", x.tell(0), part);
            Check.due("a STEADY one", x.tell(1), part + 100);
            Check.due("a SMITH", x.tell(2), 2 * part + 100);
        }
    }

    static void promise31BodiesInTheirOrder() {
        int[] due = {1, 2 * 31 + 1, ((3 * 31 + 2) * 31 + 1) * 31 + 1};
        for (int h = 0; h < 3; h++) {
            ByHand x = hands(7);
            x.tell(h);
            Check.due("TRACE", x.trace(), due[h]);
        }
    }

    static void promise31UnknownHands() {
        for (int h : Stand.beside(0, 5)) {
            Stand.refused(ByHand.UNKNOWN, x -> x.tell(h));
        }
        Check.due("the last one", Stand.full().tell(5), 1);
    }

    static void promise32ItsNumberOrASmithsOwn() {
        ByHand x = Stand.full();
        int[] due = {0, 1, 60, 3, 60, 5};
        for (int h = 0; h < 6; h++) {
            int trace = x.trace();
            Check.due("SHAKEN", x.shake(h), due[h]);
            Check.due("its body", x.trace() - 31 * trace, due[h] == 60 ? 5 : 4);
        }
        Check.due("fault() stays", x.fault(), Stand.INDEX);
    }

    static void promise32UnknownHands() {
        for (int h : Stand.beside(0, 5)) {
            Stand.refused(ByHand.UNKNOWN, x -> x.shake(h));
        }
    }

    static void promise33EachIsOneOfAllKindsBelowItsOwn() {
        for (int h = 0; h < 3; h++) {
            for (int kind = 0; kind < 3; kind++) {
                ByHand x = hands(5);
                x.put(3, 0, 0);
                boolean is = kind <= h;
                Check.due("as", x.as(h, kind), is ? 1 : -12);
                Check.due("fault()", x.fault(), is ? 0 : Stand.CAST);
            }
        }
    }

    static void promise33CastChangesNothing() {
        Stand.faulty(Stand.CAST, x -> x.as(0, 1));
        Stand.faulty(Stand.CAST, x -> x.as(5, 2));
        Stand.faulty(Stand.CAST, x -> x.as(1, 2));
    }

    static void promise33RefusalsAheadOfCast() {
        for (int h : Stand.beside(0, 5)) {
            Stand.refusedOfFaults(ByHand.UNKNOWN, x -> x.as(h, 0));
            Stand.refusedOfFaults(ByHand.UNKNOWN, x -> x.as(h, 3));
        }
        for (int kind : Stand.beside(0, 2)) {
            Stand.refusedOfFaults(ByHand.OUTSIDE, x -> x.as(0, kind));
            Stand.refusedOfFaults(ByHand.OUTSIDE, x -> x.as(2, kind));
        }
    }

    static void promise34AnIntThatWraps() {
        ByHand x = hands(5);
        int[] smith = {5, 160, 4965, 153920, 4771525, 147917280, 290468389, 414585472};
        for (int due : smith) {
            x.shake(2);
            Check.due("5 by 5", x.trace(), due);
        }
        // The eighth is 28429701248, which wraps below 0.
        x = hands(5);
        int[] hand = {1, 32, 993, 30784, 954305, 29583456, 917087137, -1635069824};
        for (int due : hand) {
            x.tell(0);
            Check.due("1 by 1", x.trace(), due);
        }
    }

    static void promise34UpToThe512thCall() {
        ByHand x = hands(5);
        int due = 0;
        // 12 calls have made it; the last one asks for TRACE.
        for (int call = 13; call < 512; call++) {
            x.shake(0);
            due = 31 * due + 4;
        }
        Check.due("TRACE", x.trace(), due);
    }

    static void promise34StaysByAllOtherCalls() {
        ByHand x = Stand.full();
        int trace = x.trace();
        x.alike(0, 0);
        x.finer(1, 0);
        x.gain(0, 1, 0, 8, 0);
        x.copies(5, 1, 2, 0, 1, 0);
        x.as(2, 1);
        x.back(10);
        x.lose(0);
        x.market(1, 2, 0, 1);
        Check.due("TRACE", x.trace(), trace);
        Check.due("asked again", x.trace(), trace);
    }

    static void promise35ZeroAheadOfAny() {
        ByHand x = new ByHand();
        Check.due("at first", x.fault(), 0);
        x.weight(0);
        x.hand(0, 0);
        x.lose(0);
        x.tell(0);
        Check.due("behind calls that name none", x.fault(), 0);
    }

    static void promise35EachFault() {
        ByHand x = Stand.full();
        Check.due("NULL", x.put(3, 0, 0), -11);
        Check.due("1", x.fault(), 1);
        Check.due("CAST", x.as(0, 2), -12);
        Check.due("2", x.fault(), 2);
        Check.due("INDEX", x.put(1, 8, 0), -13);
        Check.due("3", x.fault(), 3);
        Check.due("SIZE", x.sheet(1, 0, -1), -14);
        Check.due("4", x.fault(), 4);
        Check.due("asked again", x.fault(), 4);
    }

    /** A FAULT stays by each call that names none, taken or refused. */
    static void promise35StaysByCallsThatNameNone() {
        ByHand x = Stand.full();
        x.weight(0);
        x.weigh(0, 5);
        x.hand(0, 1);
        x.ofHand(0, 0);
        x.tells(0, 1, 1);
        x.alike(0, 0);
        x.finer(0, 1);
        x.way(0, 0, 1, -1);
        x.noon(0, 0, 1);
        x.gain(0, 1, 0, 1, 0);
        x.saying(0, 0, 1, 0);
        x.back(1);
        x.untrue();
        x.leaves(0, 0);
        x.breaks(0, 0);
        x.rows(0, -1);
        x.longest(0);
        x.crowd(0);
        x.measure(0, 0);
        x.even(0, 0);
        x.odds(0, 0);
        x.lose(0);
        x.tell(0);
        x.shake(0);
        x.trace();
        x.many(0);
        Check.due("INDEX", x.fault(), Stand.INDEX);
    }

    static void promise35ZeroByEachThatComesToNone() {
        long[] due = {8, 110, 19, 1, 1, 49, 2, 1};
        for (int call = 0; call < due.length; call++) {
            ByHand x = Stand.full();
            Check.due("call " + call, taken(x, call), due[call]);
            Check.due("fault() behind call " + call, x.fault(), 0);
        }
    }

    private static long taken(ByHand x, int call) {
        switch (call) {
            case 0: return x.market(0, 0, 0, 31);
            case 1: return x.copies(100, 1, 2, 0, 1, 0);
            case 2: return x.bestRow(100, 1, 2, 0, 1, -1);
            case 3: return x.sheet(1, 0, 1);
            case 4: return x.put(0, 0, 0);
            case 5: return x.cell(0, 0, 0);
            case 6: return x.copy(0, 0, 0, 1, 2);
            default: return x.as(2, 2);
        }
    }

    static void promise36FromNoneToTheMost() {
        int[] most = {8, 6, 10};
        for (int what = 0; what < 3; what++) {
            Check.due("none", new ByHand().many(what), 0);
            Check.due("the most", Stand.full().many(what), most[what]);
        }
        Check.due("the fewest THINGS", Check.with(1, 2).many(0), 2);
    }

    static void promise36WhatFrom0To2() {
        for (int what : Stand.beside(0, 2)) {
            Stand.refused(ByHand.OUTSIDE, x -> x.many(what));
            Check.due("in a new object", new ByHand().many(what), ByHand.OUTSIDE);
        }
    }
}
