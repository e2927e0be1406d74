/** The edges of promises 10 to 12: FAIR SWAPS. */
public final class SwapsEdgesTest {
    public static void main(String[] args) throws ReflectiveOperationException {
        Check.all(SwapsEdgesTest.class);
    }

    /** Each THING is ALIKE to the next one alone by HAND 0 and told by HAND 1. */
    private static ByHand chain() {
        ByHand x = Check.with(100, 110, 121, 133, 146, 160, 176, 193);
        x.hand(0, 10);
        x.hand(0, 20);
        return x;
    }

    private static ByHand two(int kind, int part, int lesser, int heavier) {
        ByHand x = Check.with(lesser, heavier);
        x.hand(kind, part);
        return x;
    }

    static void promise10AsManySwapsAsThereAre() {
        ByHand x = chain();
        Check.due("seven", x.way(0, 0, 7, -1), 7);
        for (int q = 0; q < 8; q++) {
            Check.due("behind " + q, x.way(0, 0, 7, q), q);
            Check.due("back, behind " + q, x.way(0, 7, 0, q), 7 - q);
        }
        Check.due("one more", x.way(0, 0, 7, 8), ByHand.NONE);
        Check.due("many more", x.way(0, 0, 7, Stand.MOST), ByHand.NONE);
        Check.due("one swap", x.way(0, 3, 4, -1), 1);
        Check.due("its last", x.way(0, 3, 4, 1), 4);
        Check.due("one more than one", x.way(0, 3, 4, 2), ByHand.NONE);
    }

    static void promise10ToItselfByNone() {
        ByHand x = chain();
        for (int thing = 0; thing < 8; thing++) {
            Check.due("how many", x.way(1, thing, thing, -1), 0);
            Check.due("the last is itself", x.way(1, thing, thing, 0), thing);
            Check.due("fewer", x.way(1, thing, thing, 1), ByHand.NONE);
        }
    }

    static void promise10NoWay() {
        ByHand x = chain();
        for (int q = -1; q < 9; q++) {
            Check.due("q " + q, x.way(1, 0, 1, q), ByHand.NONE);
        }
        Check.due("far", x.way(1, 0, 1, Stand.MOST), ByHand.NONE);
    }

    static void promise10FairIfJustAsMuchButByASmith() {
        Check.due("a HAND", two(0, 10, 100, 110).way(0, 0, 1, -1), 1);
        Check.due("a HAND, not", two(0, 10, 100, 111).way(0, 0, 1, -1), ByHand.NONE);
        Check.due("a STEADY one", two(1, 10, 100, 105).way(0, 0, 1, -1), 1);
        Check.due("a STEADY one, not", two(1, 10, 100, 106).way(0, 0, 1, -1), ByHand.NONE);
        Check.due("a SMITH", two(2, 10, 100, 104).way(0, 0, 1, -1), 1);
        Check.due("a SMITH, not", two(2, 10, 100, 105).way(0, 0, 1, -1), ByHand.NONE);
        Check.due("a SMITH back, not", two(2, 10, 100, 105).way(0, 1, 0, -1), ByHand.NONE);
    }

    static void promise10TheFirstOfSeveralRows() {
        // 0 to 1 and 2; 1 to 4; 2 to 3 and 4; 3 and 4 to 5.
        ByHand x = Check.with(100, 108, 110, 121, 118, 129);
        x.hand(0, 10);
        int[] row = {0, 1, 4, 5};
        int[] back = {5, 3, 2, 0};
        Check.due("three", x.way(0, 0, 5, -1), 3);
        for (int q = 0; q < 4; q++) {
            Check.due("behind " + q, x.way(0, 0, 5, q), row[q]);
            Check.due("back, behind " + q, x.way(0, 5, 0, q), back[q]);
        }
    }

    static void promise10TheFewestEvenIfALesserThingIsNear() {
        ByHand x = Check.with(100, 91, 110, 121);
        x.hand(0, 10);
        Check.due("by 2, as no way of two goes by 1", x.way(0, 0, 3, 1), 2);
        Check.due("two", x.way(0, 0, 3, -1), 2);
    }

    static void promise10QFromMinusOneOn() {
        for (int q : new int[] {-2, Stand.LEAST}) {
            Stand.refused(ByHand.UNKNOWN, x -> x.way(0, 0, 1, q));
        }
    }

    static void promise10UnknownHandsAndThings() {
        for (int h : Stand.beside(0, 5)) {
            Stand.refused(ByHand.UNKNOWN, x -> x.way(h, 0, 1, -1));
        }
        for (int thing : Stand.beside(0, 7)) {
            Stand.refused(ByHand.UNKNOWN, x -> x.way(5, thing, 1, -1));
            Stand.refused(ByHand.UNKNOWN, x -> x.way(5, 1, thing, -1));
            Stand.refused(ByHand.UNKNOWN, x -> x.way(5, thing, thing, -1));
        }
        Check.due("the last of two", two(0, 1, 1, 1).way(0, 1, 1, -1), 0);
        Check.due("behind two", two(0, 1, 1, 1).way(0, 0, 2, -1), ByHand.UNKNOWN);
    }

    static void promise11KFewerOrNoneSwaps() {
        ByHand x = chain();
        for (int k = 0; k < 9; k++) {
            Check.due("from the first by " + k, x.noon(0, 0, k), k < 7 ? (2 << k) - 1 : 0b11111111);
        }
        Check.due("from the last by none", x.noon(0, 7, 0), 0b10000000);
        Check.due("from the last by one", x.noon(0, 7, 1), 0b11000000);
        Check.due("from within by two", x.noon(0, 4, 2), 0b01111100);
    }

    static void promise11ByWeightsAsTheyAre() {
        ByHand x = chain();
        Check.due("all", x.noon(0, 0, 7), 0b11111111);
        x.weigh(4, 999);
        Check.due("to the gap", x.noon(0, 0, 99), 0b00001111);
        Check.due("by another HAND", x.noon(1, 0, 99), 0b00000001);
        Check.due("by the first one again", x.noon(0, 7, 99), 0b11100000);
    }

    static void promise11KFrom0To99() {
        ByHand x = chain();
        Check.due("0", x.noon(0, 3, 0), 0b1000);
        Check.due("99", x.noon(0, 3, 99), 0b11111111);
        Check.due("99 to none", x.noon(1, 3, 99), 0b1000);
        for (int k : Stand.beside(0, 99)) {
            Stand.refused(ByHand.OUTSIDE, y -> y.noon(0, 0, k));
        }
    }

    static void promise11UnknownAheadOfOutside() {
        for (int h : Stand.beside(0, 5)) {
            Stand.refused(ByHand.UNKNOWN, x -> x.noon(h, 0, 0));
            Stand.refused(ByHand.UNKNOWN, x -> x.noon(h, 0, 100));
        }
        for (int thing : Stand.beside(0, 7)) {
            Stand.refused(ByHand.UNKNOWN, x -> x.noon(5, thing, 99));
            Stand.refused(ByHand.UNKNOWN, x -> x.noon(5, thing, -1));
        }
    }

    private static void gain(ByHand x, int from, int k, int weight, int swaps) {
        Check.due("the WEIGHT by " + k, x.gain(0, 1, from, k, 0), weight);
        Check.due("the swaps by " + k, x.gain(0, 1, from, k, 1), swaps);
    }

    static void promise12KAtMost() {
        ByHand x = chain();
        int[] weights = {100, 110, 121, 133, 146, 160, 176, 193, 193};
        for (int k = 0; k < 9; k++) {
            gain(x, 0, k, weights[k], Math.min(k, 7));
        }
        gain(x, 6, 1, 193, 1);
        gain(x, 6, 8, 193, 1);
        gain(x, 7, 8, 193, 0);
    }

    static void promise12ToEachThingThatOneComesToAndNoOther() {
        int[] row = {100, 110, 121, 133, 146, 160, 176, 193};
        for (int first = 0; first < 8; first++) {
            // The same WEIGHTS, turned, so that the heaviest is each THING once; from the second heaviest down.
            int[] turned = new int[8];
            for (int thing = 0; thing < 8; thing++) {
                turned[(thing + first) % 8] = row[thing];
            }
            ByHand x = Check.with(turned);
            x.hand(0, 10);
            x.hand(0, 20);
            gain(x, first, 8, 193, 7);
            gain(x, (first + 6) % 8, 8, 193, 1);
            x.weigh((first + 7) % 8, 999);
            gain(x, first, 8, 176, 6);
            gain(x, (first + 7) % 8, 8, 999, 0);
        }
    }

    static void promise12KFrom0To8() {
        gain(chain(), 0, 0, 100, 0);
        gain(chain(), 0, 8, 193, 7);
        for (int k : Stand.beside(0, 8)) {
            Stand.refused(ByHand.OUTSIDE, x -> x.gain(0, 1, 0, k, 0));
        }
    }

    static void promise12WhatIs0Or1() {
        for (int what : Stand.beside(0, 1)) {
            Stand.refused(ByHand.OUTSIDE, x -> x.gain(0, 1, 0, 8, what));
        }
    }

    static void promise12UnknownAheadOfOutside() {
        for (int h : Stand.beside(0, 5)) {
            Stand.refused(ByHand.UNKNOWN, x -> x.gain(h, 0, 0, 9, 0));
            Stand.refused(ByHand.UNKNOWN, x -> x.gain(5, h, 0, 8, 2));
        }
        for (int thing : Stand.beside(0, 7)) {
            Stand.refused(ByHand.UNKNOWN, x -> x.gain(0, 5, thing, 9, 2));
            Stand.refused(ByHand.UNKNOWN, x -> x.gain(0, 5, thing, 0, 0));
        }
    }

    static void promise12FairByTheirsIfJustAsMuch() {
        int[][] hands = {
            // kind and PART of theirs, WEIGHT 110 or 111 is come to from 100 (else 100 stays)
            {0, 10, 110, 110}, {0, 10, 111, 100}, {1, 5, 110, 110}, {1, 5, 111, 100}, {2, 5, 109, 109}, {2, 5, 110, 100}};
        for (int[] hand : hands) {
            ByHand x = Check.with(100, hand[2]);
            x.hand(hand[0], hand[1]);
            x.hand(0, 20);
            gain(x, 0, 8, hand[3], hand[3] == 100 ? 0 : 1);
        }
    }

    static void promise12ToldByOnesOwnIfMoreThanAsMuch() {
        int[][] hands = {
            // kind and PART of one's own, WEIGHT, what is come to from 100
            {0, 20, 105, 100}, {0, 20, 106, 106}, {1, 10, 105, 100}, {1, 10, 106, 106}, {2, 10, 105, 105}, {2, 10, 104, 100}};
        for (int[] hand : hands) {
            ByHand x = Check.with(100, hand[2]);
            x.hand(0, 10);
            x.hand(hand[0], hand[1]);
            gain(x, 0, 8, hand[3], hand[3] == 100 ? 0 : 1);
        }
    }

    static void promise12TheFewestSwapsToThatWeight() {
        // To 110 by one swap, or by way of 106 by two.
        ByHand x = Check.with(100, 106, 110, 110);
        x.hand(0, 10);
        x.hand(2, 20);
        gain(x, 0, 1, 110, 1);
        gain(x, 0, 8, 110, 1);
        gain(x, 1, 8, 110, 1);
    }

    static void promise12NothingByTheSameHand() {
        ByHand x = chain();
        for (int h = 0; h < 2; h++) {
            Check.due("the WEIGHT", x.gain(h, h, 0, 8, 0), 100);
            Check.due("the swaps", x.gain(h, h, 0, 8, 1), 0);
        }
        Check.due("nor by a coarser one", x.gain(1, 0, 0, 8, 0), 100);
    }
}
