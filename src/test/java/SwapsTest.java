/** Promises 10 to 12: FAIR SWAPS. */
public final class SwapsTest {
    public static void main(String[] args) {
        promise10Way();
        promise10FirstOfSeveral();
        promise10Refusals();
        promise11Noon();
        promise12Gain();
        promise12Refusals();
        Check.end("SwapsTest");
    }

    private static void promise10Way() {
        ByHand x = Check.with(100, 110, 121, 133, 500);
        x.hand(0, 10);
        int[] row = {0, 1, 2, 3};
        Check.due("so many", x.way(0, 0, 3, -1), 3);
        Check.due("so many back", x.way(0, 3, 0, -1), 3);
        for (int q = 0; q < 4; q++) {
            Check.due("way " + q, x.way(0, 0, 3, q), row[q]);
            Check.due("way back " + q, x.way(0, 3, 0, q), row[3 - q]);
        }
        Check.due("fewer", x.way(0, 0, 3, 4), ByHand.NONE);
        Check.due("far fewer", x.way(0, 0, 3, Integer.MAX_VALUE), ByHand.NONE);
        Check.due("to itself", x.way(0, 4, 4, -1), 0);
        Check.due("to itself, behind none", x.way(0, 4, 4, 0), 4);
        Check.due("to itself, behind one", x.way(0, 4, 4, 1), ByHand.NONE);
        for (int q = -1; q < 2; q++) {
            Check.due("no way " + q, x.way(0, 0, 4, q), ByHand.NONE);
        }
    }

    private static void promise10FirstOfSeveral() {
        ByHand x = Check.with(121, 110, 109, 100, 111, 120);
        x.hand(0, 10);
        // From 3 (100) one may swap for 1 (110) or 2 (109), and both for 5 (120) or not: 109 needs 119 at most.
        Check.due("so many", x.way(0, 3, 0, -1), 2);
        Check.due("the first", x.way(0, 3, 0, 1), 1);
        x.weigh(2, 110);
        x.weigh(1, 109);
        Check.due("the only one", x.way(0, 3, 0, 1), 2);
        x.weigh(1, 110);
        Check.due("the first of two", x.way(0, 3, 0, 1), 1);
        Check.due("the last", x.way(0, 3, 0, 2), 0);
        Check.due("back: the first of several", x.way(0, 0, 3, 1), 1);
    }

    private static void promise10Refusals() {
        ByHand x = Check.with(100, 110);
        x.hand(0, 10);
        int[][] wrong = {{1, 0, 0, -1}, {-1, 0, 0, -1}, {0, 2, 0, -1}, {0, -1, 0, -1}, {0, 0, 2, -1}, {0, 0, -1, -1},
            {0, 0, 1, -2}, {0, 0, 1, Integer.MIN_VALUE}};
        for (int[] call : wrong) {
            Check.due("way", x.way(call[0], call[1], call[2], call[3]), ByHand.UNKNOWN);
        }
    }

    private static void promise11Noon() {
        ByHand x = Check.with(100, 110, 121, 133, 500);
        x.hand(0, 10);
        int[] due = {0b1, 0b11, 0b111, 0b1111, 0b1111};
        for (int k = 0; k < due.length; k++) {
            Check.due("noon " + k, x.noon(0, 0, k), due[k]);
        }
        Check.due("noon from within", x.noon(0, 2, 1), 0b1110);
        Check.due("noon alone", x.noon(0, 4, 99), 0b10000);
        Check.due("noon 99", x.noon(0, 0, 99), 0b1111);
        Check.due("noon 100", x.noon(0, 0, 100), ByHand.OUTSIDE);
        Check.due("noon -1", x.noon(0, 0, -1), ByHand.OUTSIDE);
        Check.due("UNKNOWN first", x.noon(0, 5, 100), ByHand.UNKNOWN);
        Check.due("THING -1", x.noon(0, -1, 0), ByHand.UNKNOWN);
        Check.due("HAND 1", x.noon(1, 0, 0), ByHand.UNKNOWN);
        x = Check.with(100, 110, 121, 133, 146, 160, 176, 193);
        x.hand(0, 10);
        Check.due("seven swaps", x.noon(0, 0, 7), 0b11111111);
        Check.due("six swaps", x.noon(0, 0, 6), 0b01111111);
        Check.due("seven swaps, the way", x.way(0, 0, 7, -1), 7);
    }

    private static void promise12Gain() {
        ByHand x = Check.with(100, 105, 110, 116, 500);
        x.hand(0, 10);
        x.hand(0, 20);
        x.hand(1, 20);
        // By HAND 1 of PART 20 105 is not told from 100, but 106 would be.
        Check.due("none", x.gain(0, 1, 0, 0, 0), 100);
        Check.due("none, swaps", x.gain(0, 1, 0, 0, 1), 0);
        Check.due("one", x.gain(0, 1, 0, 1, 0), 110);
        Check.due("one, swaps", x.gain(0, 1, 0, 1, 1), 1);
        Check.due("two", x.gain(0, 1, 0, 2, 0), 116);
        Check.due("two, swaps", x.gain(0, 1, 0, 2, 1), 2);
        Check.due("eight", x.gain(0, 1, 0, 8, 0), 116);
        Check.due("the fewest", x.gain(0, 1, 0, 8, 1), 2);
        Check.due("finer", x.gain(0, 2, 0, 8, 0), 116);
        Check.due("a coarser one gains nothing", x.gain(1, 0, 0, 8, 0), 100);
        Check.due("the same gains nothing", x.gain(0, 0, 0, 8, 0), 100);
        Check.due("the same, swaps", x.gain(0, 0, 0, 8, 1), 0);
        Check.due("from the heaviest", x.gain(0, 2, 4, 8, 0), 500);
        x = Check.with(100, 110, 105, 110);
        x.hand(0, 10);
        x.hand(1, 20);
        Check.due("at once or by two", x.gain(0, 1, 0, 8, 1), 1);
        promise12GainBack();
    }

    private static void promise12GainBack() {
        ByHand x = Check.with(121, 110, 100, 104);
        x.hand(0, 10);
        x.hand(1, 20);
        Check.due("to 0", x.gain(0, 1, 2, 8, 0), 121);
        Check.due("to 0, swaps", x.gain(0, 1, 2, 8, 1), 2);
        // By 110 and by 104 at once: 104 alone comes to 114 at most.
        Check.due("what is got by one swap of several", x.gain(0, 1, 2, 1, 0), 110);
        Check.due("not down", x.gain(0, 1, 0, 8, 0), 121);
        Check.due("not down, swaps", x.gain(0, 1, 0, 8, 1), 0);
        x = Check.with(500, 100, 400, 110, 104);
        x.hand(0, 10);
        x.hand(1, 20);
        Check.due("nothing heavier that is not alike", x.gain(0, 1, 3, 8, 0), 110);
        Check.due("up by one", x.gain(0, 1, 1, 8, 0), 110);
        x = Check.with(100, 109, 104, 118);
        x.hand(0, 10);
        x.hand(1, 20);
        // 118 comes of 109 alone, not of 104, which is got at the same swap.
        Check.due("by one of two", x.gain(0, 1, 0, 2, 0), 118);
    }

    private static void promise12Refusals() {
        ByHand x = Check.with(100, 110);
        x.hand(0, 10);
        int[][] unknown = {{1, 0, 0}, {-1, 0, 0}, {0, 1, 0}, {0, -1, 0}, {0, 0, 2}, {0, 0, -1}};
        for (int[] call : unknown) {
            Check.due("gain", x.gain(call[0], call[1], call[2], 9, 2), ByHand.UNKNOWN);
        }
        int[][] outside = {{-1, 0}, {9, 0}, {0, -1}, {8, 2}};
        for (int[] call : outside) {
            Check.due("gain", x.gain(0, 0, 0, call[0], call[1]), ByHand.OUTSIDE);
        }
    }
}
