/** The edges of promises 13 to 17: SAYINGS, what they leave and what they break. */
public final class SayingsEdgesTest {
    private static final int ALIKE = 0, HEAVIER = 1;

    public static void main(String[] args) throws ReflectiveOperationException {
        Check.all(SayingsEdgesTest.class);
    }

    private static ByHand with(int kind, int part, int... weights) {
        ByHand x = Check.with(weights);
        x.hand(kind, part);
        return x;
    }

    static void promise13TenAreTheMost() {
        ByHand x = with(0, 10, 100, 200);
        for (int s = 0; s < 10; s++) {
            Check.due("its number", x.saying(0, s % 2, 1 - s % 2, s / 2 % 2), s);
        }
        Check.due("an eleventh", x.saying(0, 0, 1, HEAVIER), ByHand.FULL);
        Check.due("still ten", x.many(2), 10);
    }

    static void promise13FullChangesNothing() {
        Stand.refused(ByHand.FULL, x -> x.saying(0, 0, 1, ALIKE));
        Stand.refused(ByHand.FULL, x -> x.saying(5, 7, 6, HEAVIER));
    }

    static void promise13NumberedByHowManyThereAreAhead() {
        ByHand x = Stand.full();
        Check.due("three back", x.back(3), 7);
        Check.due("the eighth", x.saying(0, 0, 1, ALIKE), 7);
        Check.due("all back", x.back(8), 0);
        Check.due("the first", x.saying(0, 0, 1, ALIKE), 0);
    }

    static void promise13SaidIs0Or1() {
        for (int said : Stand.beside(0, 1)) {
            ByHand x = with(0, 10, 100, 200);
            Check.due("refused", x.saying(0, 0, 1, said), ByHand.OUTSIDE);
            Check.due("none", x.many(2), 0);
            Check.due("0", x.saying(0, 0, 1, ALIKE), 0);
            Check.due("1", x.saying(0, 0, 1, HEAVIER), 1);
        }
    }

    static void promise13UnknownHandsAndThings() {
        for (int h : Stand.beside(0, 0)) {
            ByHand x = with(0, 10, 100, 200);
            Check.due("HAND", x.saying(h, 0, 1, 0), ByHand.UNKNOWN);
            Check.due("none", x.many(2), 0);
        }
        for (int thing : Stand.beside(0, 1)) {
            ByHand x = with(0, 10, 100, 200);
            Check.due("the first THING", x.saying(0, thing, 1, 0), ByHand.UNKNOWN);
            Check.due("the second THING", x.saying(0, 0, thing, 0), ByHand.UNKNOWN);
            Check.due("none", x.many(2), 0);
        }
    }

    static void promise13TwoThingsThatAreOne() {
        for (int thing = 0; thing < 2; thing++) {
            ByHand x = with(0, 10, 100, 200);
            Check.due("alike", x.saying(0, thing, thing, ALIKE), ByHand.UNKNOWN);
            Check.due("heavier", x.saying(0, thing, thing, HEAVIER), ByHand.UNKNOWN);
            Check.due("none", x.many(2), 0);
        }
    }

    static void promise13RefusalsInTheirOrder() {
        Stand.refused(ByHand.UNKNOWN, x -> x.saying(6, 0, 1, 2));
        Stand.refused(ByHand.UNKNOWN, x -> x.saying(0, 8, 1, 2));
        Stand.refused(ByHand.UNKNOWN, x -> x.saying(0, 0, 8, 2));
        Stand.refused(ByHand.UNKNOWN, x -> x.saying(0, 3, 3, 2));
        Stand.refused(ByHand.UNKNOWN, x -> x.saying(0, 3, 3, 0));
        Stand.refused(ByHand.OUTSIDE, x -> x.saying(0, 0, 1, 2));
        Stand.refused(ByHand.OUTSIDE, x -> x.saying(0, 0, 1, -1));
    }

    static void promise14From0ToAsManyAsThereAre() {
        ByHand x = Stand.full();
        Check.due("none", x.back(0), 10);
        Check.due("one", x.back(1), 9);
        Check.due("one more than there are", x.back(10), ByHand.OUTSIDE);
        Check.due("still nine", x.many(2), 9);
        Check.due("all", x.back(9), 0);
        Check.due("none of none", x.back(0), 0);
        Check.due("one of none", x.back(1), ByHand.OUTSIDE);
        Check.due("all of ten", Stand.full().back(10), 0);
        for (int k : Stand.beside(0, 10)) {
            Stand.refused(ByHand.OUTSIDE, y -> y.back(k));
        }
    }

    static void promise14TheLastOnes() {
        ByHand x = with(0, 10, 100, 200);
        x.saying(0, 0, 1, HEAVIER);
        x.saying(0, 1, 0, HEAVIER);
        x.saying(0, 0, 1, ALIKE);
        Check.due("FALSE", x.untrue(), 0b101);
        Check.due("two back", x.back(2), 1);
        Check.due("the first stays", x.untrue(), 0b1);
        Check.due("a new second one", x.saying(0, 1, 0, ALIKE), 1);
        Check.due("it is FALSE", x.untrue(), 0b11);
    }

    static void promise15NoneAndAllTen() {
        ByHand x = with(0, 10, 100, 200);
        Check.due("of none", x.untrue(), 0);
        for (int s = 0; s < 9; s++) {
            x.saying(0, 1, 0, HEAVIER);
        }
        Check.due("none", x.untrue(), 0);
        x.saying(0, 0, 1, ALIKE);
        Check.due("the last one", x.untrue(), 0b1000000000);
        x.weigh(1, 100);
        Check.due("all but the last one", x.untrue(), 0b0111111111);
        x.back(1);
        x.saying(0, 0, 1, HEAVIER);
        Check.due("all", x.untrue(), 0b1111111111);
    }

    static void promise15ByJustAsMuch() {
        int[][] due = {
            // kind, heavier one from 100 by PART 10: FALSE of "heavier", "lesser is heavier", "alike", "alike" turned
            {0, 110, 0b0011}, {0, 111, 0b1110}, {1, 105, 0b0011}, {1, 106, 0b1110}, {2, 104, 0b0011}, {2, 105, 0b1110}};
        for (int[] row : due) {
            ByHand x = with(row[0], 10, 100, row[1]);
            x.saying(0, 1, 0, HEAVIER);
            x.saying(0, 0, 1, HEAVIER);
            x.saying(0, 0, 1, ALIKE);
            x.saying(0, 1, 0, ALIKE);
            Check.due("FALSE by " + row[1], x.untrue(), row[2]);
        }
    }

    static void promise15OfTheHandThatSaidIt() {
        ByHand x = with(0, 1, 100, 150);
        x.hand(0, 20);
        x.saying(0, 1, 0, HEAVIER);
        x.saying(1, 1, 0, HEAVIER);
        Check.due("by the coarser one", x.untrue(), 0b01);
    }

    private static void leaves(ByHand x, int thing, int many, int least, int greatest) {
        Check.due("how many", x.leaves(thing, 0), many);
        Check.due("the least", x.leaves(thing, 1), least);
        Check.due("the greatest", x.leaves(thing, 2), greatest);
    }

    static void promise16AllIfNoneNamesIt() {
        ByHand x = with(0, 10, 100, 200, 300);
        leaves(x, 0, 999, 1, 999);
        x.saying(0, 0, 1, HEAVIER);
        leaves(x, 2, 999, 1, 999);
    }

    static void promise16None() {
        ByHand x = with(0, 1, 5, 500);
        x.saying(0, 0, 1, HEAVIER);
        leaves(x, 0, 0, ByHand.NONE, ByHand.NONE);
        x.weigh(1, 499);
        leaves(x, 0, 1, 999, 999);
    }

    static void promise16OneAtEitherEnd() {
        ByHand x = with(0, 1, 5, 2);
        x.saying(0, 1, 0, HEAVIER);
        leaves(x, 0, 0, ByHand.NONE, ByHand.NONE);
        x.weigh(1, 3);
        leaves(x, 0, 1, 1, 1);
        x.weigh(1, 5);
        leaves(x, 0, 2, 1, 2);
    }

    static void promise16JustAsMuchByEachKind() {
        int[][] due = {
            // kind: by PART 10 heavier than 100, lighter than it, alike to it: the least or the greatest of each
            {0, 111, 90, 91, 110}, {1, 106, 95, 96, 105}, {2, 105, 95, 96, 104}};
        for (int[] row : due) {
            ByHand x = with(row[0], 10, 7, 100);
            x.saying(0, 0, 1, HEAVIER);
            leaves(x, 0, 1000 - row[1], row[1], 999);
            x.back(1);
            x.saying(0, 1, 0, HEAVIER);
            leaves(x, 0, row[2], 1, row[2]);
            x.back(1);
            x.saying(0, 1, 0, ALIKE);
            leaves(x, 0, row[4] - row[3] + 1, row[3], row[4]);
        }
    }

    static void promise16BothEndsOfAlike() {
        ByHand x = with(0, 1, 999, 1);
        x.saying(0, 0, 1, ALIKE);
        leaves(x, 0, 2, 1, 2);
        leaves(x, 1, 500, 500, 999);
    }

    static void promise16OthersAsTheyAre() {
        ByHand x = with(0, 10, 100, 100, 100);
        x.saying(0, 0, 1, ALIKE);
        x.saying(0, 1, 2, HEAVIER);
        leaves(x, 0, 20, 91, 110);
        leaves(x, 1, 0, ByHand.NONE, ByHand.NONE);
        x.weigh(2, 99);
        // From 109 on 99 is told lighter; up to 110 ALIKE to 100.
        leaves(x, 1, 2, 109, 110);
        leaves(x, 2, 90, 1, 90);
        Check.due("WEIGHTS stay", x.weight(1), 100);
    }

    static void promise16WhatFrom0To2() {
        for (int what : Stand.beside(0, 2)) {
            Stand.refused(ByHand.OUTSIDE, x -> x.leaves(7, what));
        }
    }

    static void promise16UnknownAheadOfOutside() {
        for (int thing : Stand.beside(0, 7)) {
            Stand.refused(ByHand.UNKNOWN, x -> x.leaves(thing, 0));
            Stand.refused(ByHand.UNKNOWN, x -> x.leaves(thing, 3));
        }
    }

    private static void breaks(ByHand x, int thing, int many, int weight) {
        Check.due("how many", x.breaks(thing, 0), many);
        Check.due("the WEIGHT", x.breaks(thing, 1), weight);
    }

    static void promise17NoneIfNoneNamesIt() {
        ByHand x = with(0, 10, 100, 200, 300);
        breaks(x, 0, 0, 1);
        x.saying(0, 0, 1, HEAVIER);
        breaks(x, 2, 0, 1);
    }

    static void promise17TheGreatestWeight() {
        ByHand x = with(0, 1, 5, 499);
        x.saying(0, 0, 1, HEAVIER);
        breaks(x, 0, 0, 999);
        x.weigh(1, 500);
        breaks(x, 0, 1, 1);
    }

    static void promise17AllTenBreak() {
        ByHand x = with(0, 1, 5, 500);
        for (int s = 0; s < 10; s++) {
            x.saying(0, 0, 1, HEAVIER);
        }
        breaks(x, 0, 10, 1);
        breaks(x, 1, 0, 1);
    }

    static void promise17TheLeastOfSeveral() {
        ByHand x = with(0, 10, 500, 100, 300);
        x.saying(0, 0, 2, ALIKE);
        x.saying(0, 1, 0, ALIKE);
        // ALIKE to 100 from 91 on, to 300 from 273 on: one breaks by each of them.
        breaks(x, 0, 1, 91);
        x.saying(0, 2, 0, ALIKE);
        breaks(x, 0, 1, 273);
        Check.due("WEIGHTS stay", x.weight(0), 500);
    }

    static void promise17WhatIs0Or1() {
        for (int what : Stand.beside(0, 1)) {
            Stand.refused(ByHand.OUTSIDE, x -> x.breaks(7, what));
        }
    }

    static void promise17UnknownAheadOfOutside() {
        for (int thing : Stand.beside(0, 7)) {
            Stand.refused(ByHand.UNKNOWN, x -> x.breaks(thing, 0));
            Stand.refused(ByHand.UNKNOWN, x -> x.breaks(thing, 2));
        }
    }
}
