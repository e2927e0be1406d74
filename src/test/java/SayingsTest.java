/** Promises 13 to 17: SAYINGS, what they leave and what they break. */
public final class SayingsTest {
    public static void main(String[] args) {
        promise13Saying();
        promise14Back();
        promise15Untrue();
        promise16Leaves();
        promise17Breaks();
        Check.end("SayingsTest");
    }

    private static void promise13Saying() {
        ByHand x = Check.with(100, 200);
        x.hand(0, 10);
        int[][] unknown = {{1, 0, 1}, {-1, 0, 1}, {0, 2, 1}, {0, -1, 1}, {0, 0, 2}, {0, 0, -1}, {0, 1, 1}};
        for (int[] call : unknown) {
            Check.due("saying", x.saying(call[0], call[1], call[2], 2), ByHand.UNKNOWN);
        }
        Check.due("said 2", x.saying(0, 0, 1, 2), ByHand.OUTSIDE);
        Check.due("said -1", x.saying(0, 0, 1, -1), ByHand.OUTSIDE);
        Check.due("none yet", x.many(2), 0);
        for (int s = 0; s < 10; s++) {
            Check.due("saying " + s, x.saying(0, s % 2, 1 - s % 2, s % 3 == 0 ? 1 : 0), s);
        }
        Check.due("FULL", x.saying(0, 0, 1, 0), ByHand.FULL);
        Check.due("OUTSIDE ahead of FULL", x.saying(0, 0, 1, 2), ByHand.OUTSIDE);
        Check.due("ten", x.many(2), 10);
        Check.due("one back", x.back(1), 9);
        Check.due("numbered by how many are ahead", x.saying(0, 0, 1, 0), 9);
    }

    private static void promise14Back() {
        ByHand x = Check.with(100, 200);
        x.hand(0, 10);
        Check.due("none of none", x.back(0), 0);
        Check.due("one of none", x.back(1), ByHand.OUTSIDE);
        x.saying(0, 0, 1, 1);
        x.saying(0, 1, 0, 1);
        x.saying(0, 0, 1, 0);
        Check.due("none", x.back(0), 3);
        Check.due("-1", x.back(-1), ByHand.OUTSIDE);
        Check.due("4", x.back(4), ByHand.OUTSIDE);
        Check.due("three false or so", x.untrue(), 0b101);
        Check.due("the last one", x.back(1), 2);
        Check.due("the first stay", x.untrue(), 0b1);
        Check.due("all", x.back(2), 0);
        Check.due("none left", x.many(2), 0);
    }

    private static void promise15Untrue() {
        ByHand x = Check.with(100, 110, 111);
        x.hand(0, 10);
        x.hand(2, 5);
        Check.due("none", x.untrue(), 0);
        x.saying(0, 2, 0, 1);
        x.saying(0, 1, 0, 1);
        x.saying(0, 0, 1, 0);
        x.saying(1, 0, 1, 0);
        x.saying(1, 1, 0, 1);
        x.saying(1, 0, 1, 1);
        x.saying(0, 2, 0, 0);
        Check.due("FALSE", x.untrue(), 0b1101010);
        x.weigh(0, 105);
        Check.due("by WEIGHTS as they are", x.untrue(), 0b0110011);
    }

    private static void promise16Leaves() {
        ByHand x = Check.with(100, 200, 300);
        x.hand(0, 10);
        x.hand(2, 5);
        leaves(x, 0, 999, 1, 999);
        x.saying(0, 1, 0, 0);
        // WEIGHTS alike to 200: 182 (182 + 18.2) to 220.
        leaves(x, 0, 39, 182, 220);
        leaves(x, 1, 20, 91, 110);
        leaves(x, 2, 999, 1, 999);
        x.saying(1, 0, 1, 1);
        leaves(x, 0, 1, 220, 220);
        x.saying(0, 2, 0, 0);
        leaves(x, 0, 0, ByHand.NONE, ByHand.NONE);
        leaves(x, 2, 20, 91, 110);
        Check.due("what 3", x.leaves(0, 3), ByHand.OUTSIDE);
        Check.due("what -1", x.leaves(0, -1), ByHand.OUTSIDE);
        Check.due("UNKNOWN first", x.leaves(3, 3), ByHand.UNKNOWN);
        Check.due("THING -1", x.leaves(-1, 0), ByHand.UNKNOWN);
        Check.due("it changes nothing", x.weight(0), 100);
        x.back(3);
        x.saying(0, 0, 1, 1);
        leaves(x, 0, 779, 221, 999);
        x.back(1);
        x.saying(0, 1, 0, 1);
        leaves(x, 0, 181, 1, 181);
    }

    private static void leaves(ByHand x, int thing, int many, int least, int greatest) {
        Check.due("leaves, many", x.leaves(thing, 0), many);
        Check.due("leaves, least", x.leaves(thing, 1), least);
        Check.due("leaves, greatest", x.leaves(thing, 2), greatest);
    }

    private static void promise17Breaks() {
        ByHand x = Check.with(100, 200, 300);
        x.hand(0, 10);
        breaks(x, 0, 0, 1);
        x.saying(0, 0, 1, 0);
        breaks(x, 0, 0, 182);
        x.saying(0, 0, 2, 0);
        breaks(x, 0, 1, 182);
        x.saying(0, 0, 2, 0);
        breaks(x, 0, 1, 273);
        x.saying(0, 1, 2, 1);
        breaks(x, 2, 0, 91);
        // 1 is alike to 0 (100) by 91 to 110, and told from 2 (300) by 331 on: one of both breaks.
        breaks(x, 1, 1, 91);
        Check.due("what 2", x.breaks(0, 2), ByHand.OUTSIDE);
        Check.due("what -1", x.breaks(0, -1), ByHand.OUTSIDE);
        Check.due("UNKNOWN first", x.breaks(3, 2), ByHand.UNKNOWN);
        Check.due("THING -1", x.breaks(-1, 0), ByHand.UNKNOWN);
        Check.due("it changes nothing", x.weight(0), 100);
        breaksAtTheEnds();
    }

    private static void breaksAtTheEnds() {
        ByHand x = Check.with(100, 499);
        x.hand(0, 1);
        x.saying(0, 0, 1, 1);
        leaves(x, 0, 1, 999, 999);
        breaks(x, 0, 0, 999);
        x.weigh(1, 500);
        leaves(x, 0, 0, ByHand.NONE, ByHand.NONE);
        for (int s = 1; s < 10; s++) {
            x.saying(0, 0, 1, 1);
        }
        breaks(x, 0, 10, 1);
        x.weigh(1, 1);
        breaks(x, 0, 0, 3);
    }

    private static void breaks(ByHand x, int thing, int many, int weight) {
        Check.due("breaks, many", x.breaks(thing, 0), many);
        Check.due("breaks, WEIGHT", x.breaks(thing, 1), weight);
    }
}
