/** Promises 18 to 25: ROWS, LONGEST, CROWD, MEASURE, COPIES, BEST ROW, EVEN and odds. */
public final class RowsTest {
    public static void main(String[] args) {
        promise18Rows();
        promise19Longest();
        promise20Crowd();
        promise21Measure();
        promise22Copies();
        promise22Refusals();
        promise23BestRow();
        promise23Refusals();
        promise24Even();
        promise25Odds();
        Check.end("RowsTest");
    }

    private static void row(ByHand x, int h, int many, int... order) {
        Check.due("rows, many", x.rows(h, -1), many);
        for (int q = 0; q < order.length; q++) {
            Check.due("rows " + q, x.rows(h, q), order[q]);
        }
    }

    private static void promise18Rows() {
        ByHand x = Check.with(300, 200, 100);
        x.hand(0, 20);
        row(x, 0, 1, 2, 1, 0);
        x.weigh(1, 290);
        row(x, 0, 2, 2, 0, 1);
        x.weigh(2, 280);
        row(x, 0, 3, 1, 2, 0);
        Check.due("q 3", x.rows(0, 3), ByHand.UNKNOWN);
        Check.due("q -2", x.rows(0, -2), ByHand.UNKNOWN);
        Check.due("HAND 1", x.rows(1, 0), ByHand.UNKNOWN);
        Check.due("HAND -1", x.rows(-1, 0), ByHand.UNKNOWN);
        x = Check.with(5, 5, 5, 5, 5, 5, 5, 5);
        x.hand(2, 20);
        row(x, 0, 40320, 0, 1, 2, 3, 4, 5, 6, 7);
        // Told by PART 20 are only 106 from 100 and the like: 0 and 1 are both laid ahead of 3.
        x = Check.with(100, 100, 105, 106);
        x.hand(0, 20);
        row(x, 0, 8, 0, 1, 2, 3);
        x.weigh(0, 107);
        row(x, 0, 8, 1, 0, 2, 3);
    }

    private static void promise19Longest() {
        ByHand x = Check.with(300, 290, 280, 270);
        x.hand(0, 20);
        x.hand(0, 1);
        x.hand(1, 20);
        Check.due("each other one", x.longest(0), 2);
        Check.due("none told", x.longest(1), 1);
        // 280 from 270: 10 times 40 is more than 270.
        Check.due("all told", x.longest(2), 4);
        Check.due("HAND 3", x.longest(3), ByHand.UNKNOWN);
        Check.due("HAND -1", x.longest(-1), ByHand.UNKNOWN);
        x = Check.with(8, 1, 128, 4, 2, 64, 16, 32);
        x.hand(2, 1);
        Check.due("eight", x.longest(0), 8);
    }

    private static void promise20Crowd() {
        ByHand x = Check.with(100, 200, 110, 210, 121);
        x.hand(0, 10);
        x.hand(0, 1);
        x.hand(1, 20);
        // 0 and 2, 1 and 3, 2 and 4 are alike, but 0 and 4 need not be.
        Check.due("the least of several", x.crowd(0), 0b00101);
        // By PART 1 all but 210 from 100 are alike.
        Check.due("all but one", x.crowd(1), 0b10111);
        Check.due("one alone", x.crowd(2), 0b00001);
        Check.due("HAND 3", x.crowd(3), ByHand.UNKNOWN);
        Check.due("HAND -1", x.crowd(-1), ByHand.UNKNOWN);
        x.weigh(3, 120);
        Check.due("more are better than the least", x.crowd(0), 0b11100);
        x.weigh(3, 199);
        Check.due("all", x.crowd(1), 0b11111);
    }

    private static void promise21Measure() {
        ByHand x = Check.with(100, 110, 121, 500, 500);
        x.hand(0, 10);
        Check.due("measure", x.measure(0, 0), 1);
        Check.due("measure, many", x.measure(0, 1), 2);
        x.weigh(1, 1);
        Check.due("the least of several", x.measure(0, 0), 3);
        Check.due("one other", x.measure(0, 1), 1);
        x.weigh(4, 999);
        Check.due("none alike", x.measure(0, 0), 0);
        Check.due("none", x.measure(0, 1), 0);
        Check.due("what 2", x.measure(0, 2), ByHand.OUTSIDE);
        Check.due("what -1", x.measure(0, -1), ByHand.OUTSIDE);
        Check.due("UNKNOWN first", x.measure(1, 2), ByHand.UNKNOWN);
        Check.due("HAND -1", x.measure(-1, 0), ByHand.UNKNOWN);
    }

    private static void promise22Copies() {
        ByHand x = Check.with(1, 2);
        x.hand(0, 10);
        x.hand(1, 10);
        x.hand(2, 10);
        x.hand(0, 1);
        x.hand(2, 1);
        Check.fill(x, 1, 1, 0, 1, 2, 3, 4, 3, 3, 3, 3, 3);
        int[][] due = {
            // WEIGHT, from, how many, greatest, least
            {100, 0, 1, 110, 91}, {100, 1, 1, 105, 96}, {100, 2, 1, 104, 96}, {99, 2, 1, 103, 95}, {101, 2, 1, 106, 97},
            {105, 2, 1, 110, 101}, {105, 1, 1, 110, 100}, {20, 2, 1, 20, 20}, {21, 2, 1, 22, 21}, {100, 3, 1, 200, 50},
            {1, 3, 1, 2, 1}, {1, 4, 1, 1, 1}, {2, 4, 1, 2, 2}, {3, 4, 1, 4, 3}, {101, 3, 1, 202, 51}, {100, 0, 2, 115, 87},
            {999, 5, 5, 31968, 32}, {1, 5, 5, 32, 1}, {999, 0, 1, 1098, 909}, {999, 2, 3, 3143, 318}};
        for (int[] row : due) {
            String call = "copies of " + row[0] + " from " + row[1] + ", " + row[2];
            Check.due(call + ", greatest", x.copies(row[0], 1, 1, row[1], row[2], 0), row[3]);
            Check.due(call + ", least", x.copies(row[0], 1, 1, row[1], row[2], 1), row[4]);
        }
    }

    private static void promise22Refusals() {
        ByHand x = Check.with(1, 2);
        x.hand(0, 10);
        Check.due("SHEET 4", x.copies(0, 4, 3, 0, 1, 2), ByHand.UNKNOWN);
        Check.due("SHEET -1", x.copies(0, -1, 3, 0, 1, 2), ByHand.UNKNOWN);
        Check.due("sort", x.copies(5, 1, 3, 0, -1, 0), ByHand.OUTSIDE);
        Check.due("sort -1", x.copies(5, 1, -1, 0, -1, 0), ByHand.OUTSIDE);
        Check.due("WEIGHT 0", x.copies(0, 1, 0, 0, -1, 0), ByHand.OUTSIDE);
        Check.due("WEIGHT 1000", x.copies(1000, 1, 0, 0, -1, 0), ByHand.OUTSIDE);
        Check.due("what 2", x.copies(5, 1, 0, 0, -1, 2), ByHand.OUTSIDE);
        Check.due("what -1", x.copies(5, 1, 0, 0, -1, -1), ByHand.OUTSIDE);
        Check.due("came to none", x.fault(), 0);
        faults(x, false);
        Check.fill(x, 1, 2, 0, 0, 0, 1, 0, 0, 0, -1);
        Check.due("n 0", x.copies(5, 1, 2, 8, 0, 0), ByHand.OUTSIDE);
        Check.due("n 6", x.copies(5, 1, 2, 0, 6, 0), ByHand.OUTSIDE);
        Check.due("came to none", x.fault(), 0);
        Check.due("HAND 1", x.copies(5, 1, 2, 0, 4, 0), ByHand.UNKNOWN);
        Check.due("HAND -1", x.copies(5, 1, 2, 7, 1, 0), ByHand.UNKNOWN);
        Check.due("HAND 0 alone", x.copies(5, 1, 2, 0, 3, 0), 5);
        Check.due("none of HANDS in a new one", noHands().copies(5, 1, 0, 0, 1, 0), ByHand.UNKNOWN);
    }

    private static ByHand noHands() {
        ByHand x = new ByHand();
        Check.fill(x, 1, 0, 0);
        return x;
    }

    /** The FAULTS that copies and bestRow name alike. */
    private static void faults(ByHand x, boolean best) {
        x.lose(1);
        fault(x, best, 0, 9, -1, 1);
        x.sheet(1, 0, 3);
        fault(x, best, 1, 9, -1, 2);
        fault(x, best, 0, 9, -1, 4);
        fault(x, best, 0, 4, 0, 3);
        fault(x, best, 0, -1, 0, 3);
        fault(x, best, 0, -1, 1, 3);
        fault(x, best, 0, 0, 4, 3);
        fault(x, best, 0, 0, 6, 3);
        fault(x, best, 0, 2, Integer.MAX_VALUE, 3);
    }

    private static void fault(ByHand x, boolean best, int sort, int i, int n, int fault) {
        int got = best ? x.bestRow(5, 1, sort, i, n, 99) : x.copies(5, 1, sort, i, n, 0);
        Check.due("from " + i + " on, " + n, got, -10 - fault);
        Check.due("fault()", x.fault(), fault);
    }

    private static void promise23BestRow() {
        ByHand x = Check.with(1, 2);
        x.hand(0, 10);
        x.hand(1, 10);
        x.hand(2, 10);
        x.hand(0, 1);
        Check.fill(x, 1, 2, 3, 2, 1, 0, 3, 0, 3);
        best(x, 100, 3, 1, 19, 0);
        best(x, 100, 2, 2, 27, 1, 0);
        best(x, 100, 1, 3, 35, 2, 0, 1);
        best(x, 100, 0, 4, 196, 2, 0, 1, 3);
        best(x, 1, 0, 5, 3, 0, 1, 2, 3, 3);
        best(x, 100, 4, 3, 417, 0, 3, 3);
        best(x, 999, 0, 1, 1998 - 500, 3);
        Check.due("cells stay", x.cell(1, 0, 2), 3);
        Check.fill(x, 1, 2, 2, 2, 0, 0, 0);
        // 2, 2, 0, 0, 0 has as little (143 less 70), but is not the first.
        best(x, 100, 0, 5, 143 - 70, 2, 0, 0, 0, 2);
    }

    private static void best(ByHand x, int weight, int i, int n, int spread, int... row) {
        String call = "bestRow of " + weight + " from " + i + ", " + n;
        Check.due(call, x.bestRow(weight, 1, 2, i, n, -1), spread);
        for (int q = 0; q < n; q++) {
            Check.due(call + ", " + q, x.bestRow(weight, 1, 2, i, n, q), row[q]);
        }
    }

    private static void promise23Refusals() {
        ByHand x = Check.with(1, 2);
        x.hand(0, 10);
        Check.due("SHEET 4", x.bestRow(0, 4, 3, 0, 1, 2), ByHand.UNKNOWN);
        Check.due("SHEET -1", x.bestRow(0, -1, 3, 0, 1, 2), ByHand.UNKNOWN);
        Check.due("sort", x.bestRow(5, 1, 3, 0, -1, 0), ByHand.OUTSIDE);
        Check.due("sort -1", x.bestRow(5, 1, -1, 0, -1, 0), ByHand.OUTSIDE);
        Check.due("WEIGHT 0", x.bestRow(0, 1, 0, 0, -1, 0), ByHand.OUTSIDE);
        Check.due("WEIGHT 1000", x.bestRow(1000, 1, 0, 0, -1, 0), ByHand.OUTSIDE);
        Check.due("came to none", x.fault(), 0);
        faults(x, true);
        Check.fill(x, 1, 2, 0, 0, 0, 1, 0, 0, 0, -1);
        Check.due("n 0", x.bestRow(5, 1, 2, 8, 0, -1), ByHand.OUTSIDE);
        Check.due("n 6", x.bestRow(5, 1, 2, 0, 6, 9), ByHand.OUTSIDE);
        Check.due("came to none", x.fault(), 0);
        Check.due("HAND 1", x.bestRow(5, 1, 2, 0, 4, -1), ByHand.UNKNOWN);
        Check.due("HAND -1", x.bestRow(5, 1, 2, 7, 1, -1), ByHand.UNKNOWN);
        Check.due("q -2", x.bestRow(5, 1, 2, 0, 3, -2), ByHand.UNKNOWN);
        Check.due("q 3", x.bestRow(5, 1, 2, 0, 3, 3), ByHand.UNKNOWN);
        Check.due("q 2", x.bestRow(5, 1, 2, 0, 3, 2), 0);
    }

    private static void promise24Even() {
        ByHand x = Check.with(100, 200, 300);
        x.hand(0, 20);
        even(x, 0b011, 0b100);
        x.weigh(2, 210);
        even(x, 0b010, 0b100);
        x.weigh(2, 300);
        x.weigh(1, 105);
        even(x, 0b001, 0b010);
        x.weigh(1, 150);
        even(x, ByHand.NONE, ByHand.NONE);
        Check.due("what 2", x.even(0, 2), ByHand.OUTSIDE);
        Check.due("what -1", x.even(0, -1), ByHand.OUTSIDE);
        Check.due("UNKNOWN first", x.even(1, 2), ByHand.UNKNOWN);
        Check.due("HAND -1", x.even(-1, 0), ByHand.UNKNOWN);
        x = Check.with(100, 100, 100, 100);
        x.hand(0, 20);
        even(x, 0b0011, 0b1100);
        x.weigh(3, 999);
        even(x, 0b0001, 0b0010);
        // By PART 20 209 is told from 199, as 10 * 20 is more than it, but not from 200.
        x = Check.with(209, 100, 99);
        x.hand(0, 20);
        even(x, 0b010, 0b100);
        x.weigh(2, 100);
        even(x, 0b001, 0b110);
        x = Check.with(199, 100, 109);
        x.hand(0, 20);
        even(x, ByHand.NONE, ByHand.NONE);
        x.weigh(0, 200);
        even(x, 0b001, 0b110);
        // The heavier set may be the first one: 300 and 100 against 200 and 190.
        x = Check.with(300, 100, 200, 190);
        x.hand(0, 20);
        even(x, 0b0011, 0b1100);
    }

    private static void even(ByHand x, int first, int other) {
        Check.due("even, first", x.even(0, 0), first);
        Check.due("even, other", x.even(0, 1), other);
    }

    private static void promise25Odds() {
        ByHand x = Check.with(100, 110, 121, 133);
        x.hand(0, 10);
        odds(x, 1, 2);
        x.weigh(3, 121);
        odds(x, 1, 3);
        x.weigh(2, 110);
        odds(x, 1, 6);
        x.weigh(3, 110);
        odds(x, 0, 1);
        x = Check.with(1, 10, 100);
        x.hand(1, 3);
        odds(x, 1, 1);
        x = Check.with(100, 1, 1);
        x.hand(0, 3);
        odds(x, 2, 3);
        Check.due("which 2", x.odds(0, 2), ByHand.LOST);
        Check.due("which -1", x.odds(0, -1), ByHand.LOST);
        Check.due("HAND 1", x.odds(1, 0), ByHand.LOST);
        Check.due("HAND -1", x.odds(-1, 0), ByHand.LOST);
    }

    private static void odds(ByHand x, int upper, int lower) {
        Check.due("odds, upper", x.odds(0, 0), upper);
        Check.due("odds, lower", x.odds(0, 1), lower);
    }
}
