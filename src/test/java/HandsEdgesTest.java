/** The edges of promises 5 to 9: HANDS and what they TELL. */
public final class HandsEdgesTest {
    public static void main(String[] args) throws ReflectiveOperationException {
        Check.all(HandsEdgesTest.class);
    }

    /** HAND 0, STEADY 1, SMITH 2 of one PART. */
    private static ByHand kinds(int part, int... weights) {
        ByHand x = Check.with(weights);
        for (int kind = 0; kind < 3; kind++) {
            Check.due("hand", x.hand(kind, part), kind);
        }
        return x;
    }

    static void promise5KindsFrom0To2() {
        for (int kind = 0; kind < 3; kind++) {
            ByHand x = Check.with(1, 2);
            Check.due("taken", x.hand(kind, 5), 0);
            Check.due("its kind", x.ofHand(0, 0), kind);
        }
        for (int kind : Stand.beside(0, 2)) {
            ByHand x = Check.with(1, 2);
            Check.due("refused", x.hand(kind, 5), ByHand.OUTSIDE);
            Check.due("none", x.many(1), 0);
        }
    }

    static void promise5PartsFrom1To20() {
        for (int part : new int[] {1, 20}) {
            ByHand x = Check.with(1, 2);
            Check.due("taken", x.hand(0, part), 0);
            Check.due("its PART", x.ofHand(0, 1), part);
        }
        for (int part : Stand.beside(1, 20)) {
            ByHand x = Check.with(1, 2);
            Check.due("refused", x.hand(0, part), ByHand.OUTSIDE);
            Check.due("none", x.many(1), 0);
        }
    }

    static void promise5SixAreTheMost() {
        ByHand x = Check.with(1, 2);
        for (int h = 0; h < 6; h++) {
            Check.due("its number", x.hand(h % 3, 20 - h), h);
        }
        Check.due("a seventh", x.hand(0, 1), ByHand.FULL);
        Check.due("still six", x.many(1), 6);
        Check.due("the last one stays", x.ofHand(5, 1), 15);
        Check.due("no seventh", x.ofHand(6, 0), ByHand.UNKNOWN);
    }

    static void promise5FullChangesNothing() {
        for (int k = 0; k < 3; k++) {
            int kind = k;
            Stand.refused(ByHand.FULL, x -> x.hand(kind, 1));
        }
    }

    static void promise5OutsideAheadOfState() {
        ByHand x = new ByHand();
        Check.due("kind", x.hand(3, 1), ByHand.OUTSIDE);
        Check.due("PART", x.hand(0, 21), ByHand.OUTSIDE);
        Check.due("PART below", x.hand(0, 0), ByHand.OUTSIDE);
        Check.due("STATE", x.hand(2, 20), ByHand.STATE);
    }

    static void promise5OutsideAheadOfFull() {
        Stand.refused(ByHand.OUTSIDE, x -> x.hand(-1, 1));
        Stand.refused(ByHand.OUTSIDE, x -> x.hand(3, 1));
        Stand.refused(ByHand.OUTSIDE, x -> x.hand(0, 0));
        Stand.refused(ByHand.OUTSIDE, x -> x.hand(0, 21));
    }

    static void promise5NoMarketByAWrongText() {
        ByHand x = new ByHand();
        Check.due("one THING is none", Check.market(x, "100"), -103);
        Check.due("STATE", x.hand(0, 1), ByHand.STATE);
        Check.due("two", Check.market(x, "100;200"), 2);
        Check.due("taken", x.hand(0, 1), 0);
        Check.due("another wrong TEXT", Check.market(x, "000"), -102);
        Check.due("leaves the MARKET", x.hand(0, 1), 1);
    }

    static void promise6HandsFrom0ToOneLessThanThereAre() {
        ByHand x = Stand.full();
        Check.due("kind of the first", x.ofHand(0, 0), 0);
        Check.due("PART of the first", x.ofHand(0, 1), 10);
        Check.due("kind of the fifth", x.ofHand(4, 0), 2);
        Check.due("PART of the last", x.ofHand(5, 1), 1);
        for (int h : Stand.beside(0, 5)) {
            Stand.refused(ByHand.UNKNOWN, y -> y.ofHand(h, 0));
        }
        ByHand one = Check.with(1, 2);
        Check.due("none yet", one.ofHand(0, 1), ByHand.UNKNOWN);
        one.hand(1, 3);
        Check.due("one", one.ofHand(0, 1), 3);
        Check.due("no other one", one.ofHand(1, 1), ByHand.UNKNOWN);
    }

    static void promise6WhatIs0Or1() {
        for (int what : Stand.beside(0, 1)) {
            Stand.refused(ByHand.OUTSIDE, x -> x.ofHand(5, what));
        }
        Stand.refused(ByHand.UNKNOWN, x -> x.ofHand(6, 2));
    }

    static void promise7MoreThanThePartOfTheLesserOne() {
        for (int part = 1; part <= 20; part++) {
            ByHand x = kinds(part, 1, 2);
            int than = 20 * part;
            int[][] told = {{20, 21}, {10, 11}, {9, 10}};
            for (int h = 0; h < 3; h++) {
                Check.due("not by so much", x.tells(h, than + told[h][0], than), 0);
                Check.due("by so much", x.tells(h, than + told[h][1], than), 1);
                Check.due("never the lesser one", x.tells(h, than, than + told[h][1]), 0);
            }
        }
    }

    static void promise7JustAsMuchByASmithAlone() {
        ByHand x = kinds(20, 1, 2);
        int[] due = {0, 0, 1};
        for (int h = 0; h < 3; h++) {
            Check.due("a fortieth", x.tells(h, 41, 40), due[h]);
            Check.due("a fortieth of much", x.tells(h, 9840, 9600), due[h]);
        }
    }

    static void promise7NoneFromItsEqual() {
        for (int part : new int[] {1, 20}) {
            ByHand x = kinds(part, 1, 2);
            for (int h = 0; h < 3; h++) {
                Check.due("1", x.tells(h, 1, 1), 0);
                Check.due("9999", x.tells(h, 9999, 9999), 0);
            }
        }
    }

    static void promise7WeightsFrom1To9999() {
        ByHand x = kinds(20, 1, 2);
        for (int h = 0; h < 3; h++) {
            Check.due("9999 from 1", x.tells(h, 9999, 1), 1);
            Check.due("1 from 9999", x.tells(h, 1, 9999), 0);
        }
        Check.due("9999 by a HAND", x.tells(0, 9999, 9522), 1);
        Check.due("9999 by a HAND, not", x.tells(0, 9999, 9523), 0);
        Check.due("9999 by a SMITH", x.tells(2, 9999, 9755), 1);
        Check.due("9999 by a SMITH, not", x.tells(2, 9999, 9756), 0);
        for (int v : Stand.beside(1, 9999)) {
            Stand.refused(ByHand.OUTSIDE, y -> y.tells(0, v, 5));
            Stand.refused(ByHand.OUTSIDE, y -> y.tells(0, 5, v));
        }
    }

    static void promise7UnknownAheadOfOutside() {
        for (int h : Stand.beside(0, 5)) {
            Stand.refused(ByHand.UNKNOWN, x -> x.tells(h, 2, 1));
            Stand.refused(ByHand.UNKNOWN, x -> x.tells(h, 0, 10000));
        }
    }

    static void promise8JustAsMuchIsAlikeButByASmith() {
        ByHand x = kinds(10, 100, 104, 105, 106, 110, 111);
        int[] toTheLeast = {0b011111, 0b000111, 0b000011};
        int[] toTheGreatest = {0b111110, 0b111000, 0b111000};
        for (int h = 0; h < 3; h++) {
            Check.due("to 100", x.alike(h, 0), toTheLeast[h]);
            Check.due("to 111", x.alike(h, 5), toTheGreatest[h]);
        }
        Check.due("105 to 100 by a STEADY one", x.alike(1, 2), 0b111111 & ~0b100000);
        Check.due("105 to 100 by a SMITH", x.alike(2, 2), 0b011110);
    }

    static void promise8OneIsAlikeToItself() {
        ByHand x = kinds(20, 1, 3, 9, 27, 81, 243, 729, 999);
        for (int h = 0; h < 3; h++) {
            for (int thing = 0; thing < 8; thing++) {
                Check.due("itself alone", x.alike(h, thing), 1 << thing);
            }
        }
    }

    static void promise8AllEight() {
        ByHand x = kinds(20, 5, 5, 5, 5, 5, 5, 5, 5);
        for (int h = 0; h < 3; h++) {
            Check.due("all", x.alike(h, 0), 0b11111111);
            Check.due("all to the last", x.alike(h, 7), 0b11111111);
        }
    }

    static void promise8UnknownHandsAndThings() {
        for (int h : Stand.beside(0, 5)) {
            Stand.refused(ByHand.UNKNOWN, x -> x.alike(h, 0));
        }
        for (int thing : Stand.beside(0, 7)) {
            Stand.refused(ByHand.UNKNOWN, x -> x.alike(5, thing));
        }
        Check.due("behind two", kinds(1, 1, 2).alike(0, 2), ByHand.UNKNOWN);
    }

    static void promise9NoneIsFinerThanItself() {
        ByHand x = Stand.full();
        for (int h = 0; h < 6; h++) {
            Check.due("itself", x.finer(h, h), 0);
        }
    }

    static void promise9JustWhatTheOtherOneTells() {
        ByHand x = kinds(10, 100, 109, 250);
        Check.due("the same by another HAND", x.hand(0, 11), 3);
        Check.due("not FINER", x.finer(3, 0), 0);
        Check.due("nor the other way", x.finer(0, 3), 0);
        x = kinds(20, 5, 5);
        for (int h = 0; h < 3; h++) {
            Check.due("nothing told by both", x.finer(h, (h + 1) % 3), 0);
        }
    }

    static void promise9OnePairMore() {
        for (int first = 0; first < 8; first++) {
            ByHand x = Check.with(513, 513, 513, 513, 513, 513, 513, 513);
            x.hand(0, 10);
            x.hand(0, 20);
            Check.due("none told", x.finer(1, 0), 0);
            x.weigh(first, 526);
            x.weigh((first + 1) % 8, 500);
            // 26 times 20 is more than 500; all other pairs differ by 13 or less.
            Check.due("FINER", x.finer(1, 0), 1);
            Check.due("coarser", x.finer(0, 1), 0);
        }
    }

    static void promise9JustAsMuchIsMore() {
        ByHand two = kinds(10, 100, 105);
        Check.due("a SMITH TELLS just as much", two.finer(2, 1), 1);
        Check.due("a STEADY one does not", two.finer(1, 2), 0);
        Check.due("nor does it more than a HAND", two.finer(1, 0), 0);
        two.weigh(0, 105);
        two.weigh(1, 100);
        Check.due("by the first THING, too", two.finer(2, 1), 1);
    }

    static void promise9ByWeightsAsTheyAre() {
        ByHand x = kinds(10, 100, 106);
        Check.due("FINER", x.finer(1, 0), 1);
        x.weigh(1, 111);
        Check.due("told by both", x.finer(1, 0), 0);
        x.weigh(1, 105);
        Check.due("told by none", x.finer(1, 0), 0);
    }

    static void promise9UnknownHands() {
        for (int h : Stand.beside(0, 5)) {
            Stand.refused(ByHand.UNKNOWN, x -> x.finer(h, 0));
            Stand.refused(ByHand.UNKNOWN, x -> x.finer(5, h));
        }
    }
}
