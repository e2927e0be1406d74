import java.util.function.ToIntFunction;
import java.util.function.ToLongFunction;

/**
 * An object in which everything stands and that is full, and all that it tells of itself as one text: by these it is
 * seen that a refused call changes nothing.
 */
final class Stand {
    static final int NULL = 1, CAST = 2, INDEX = 3, SIZE = 4;
    /** Numbers that are no THING, HAND, place or the like in any object. */
    static final int LEAST = Integer.MIN_VALUE, MOST = Integer.MAX_VALUE;
    /** The TEXT in SHEET 0 (bytes), of 31 codes. */
    static final String TEXT = "100;104;109;115;130;131;260;999";
    /** In SHEET 1 (ints): 0 to 5 are HANDS, the others are none. SHEET 2 has 3 shorts, SHEET 3 nothing. */
    static final int[] NUMBERS = {0, 1, 2, 5, 4, 3, 6, -1};

    private static final String TOLD = told(full());

    private Stand() {
    }

    /** 8 THINGS, 6 HANDS, 10 SAYINGS, a TRACE; INDEX is the latest FAULT. */
    static ByHand full() {
        ByHand x = new ByHand();
        Check.due("a TEXT of eight", Check.market(x, TEXT), 8);
        int[][] hands = {{0, 10}, {1, 10}, {2, 10}, {0, 20}, {2, 3}, {0, 1}};
        for (int[] hand : hands) {
            x.hand(hand[0], hand[1]);
        }
        for (int s = 0; s < 10; s++) {
            x.saying(s % 6, s % 8, (s + 1 + s / 3) % 8, s % 2);
        }
        Check.fill(x, 1, 2, NUMBERS);
        Check.fill(x, 2, 1, 7, -8, 9);
        x.tell(2);
        x.shake(0);
        Check.due("INDEX ahead of what is asked", x.put(0, 31, 0), -13);
        return x;
    }

    /** All that an object tells but fault(), which must be asked ahead of this; it is of no more use behind it. */
    static String told(ByHand x) {
        StringBuilder text = new StringBuilder();
        text.append(x.many(0)).append(' ').append(x.many(1)).append(' ').append(x.many(2));
        text.append(" trace ").append(x.trace()).append(" weights");
        for (int thing = 0; thing < 9; thing++) {
            text.append(' ').append(x.weight(thing));
        }
        text.append(" hands");
        for (int h = 0; h < 7; h++) {
            text.append(' ').append(x.ofHand(h, 0)).append('/').append(x.ofHand(h, 1));
        }
        for (int thing = 0; thing < x.many(0); thing++) {
            text.append(" leaves ").append(x.leaves(thing, 0)).append(' ').append(x.leaves(thing, 1));
            text.append(" breaks ").append(x.breaks(thing, 0)).append(' ').append(x.breaks(thing, 1));
        }
        for (int left = x.many(2); left > 0; left--) {
            text.append(" untrue ").append(x.untrue()).append(' ').append(x.back(1));
        }
        for (int k = 0; k < 4; k++) {
            text.append(" sheet ").append(k).append(sheet(x, k));
        }
        return text.toString();
    }

    /** The cells of a SHEET and by which FAULT each SORT's row ends. */
    static String sheet(ByHand x, int k) {
        StringBuilder text = new StringBuilder();
        for (int sort = 0; sort < 3; sort++) {
            long cell = x.cell(k, 0, sort);
            for (int i = 1; cell != ByHand.LOST && i < 42; i++) {
                text.append(' ').append(cell);
                cell = x.cell(k, i, sort);
            }
            text.append(" end ").append(x.fault());
        }
        return text.toString();
    }

    /** A call that names no FAULTS and is refused (by -1 to -4 or LOST): nothing is changed, fault() as little. */
    static void refused(long due, ToLongFunction<ByHand> call) {
        leavesAll(due, INDEX, call);
    }

    /** A call that names FAULTS, and comes to none as it is refused: fault() becomes 0, all else stays. */
    static void refusedOfFaults(long due, ToLongFunction<ByHand> call) {
        leavesAll(due, 0, call);
    }

    /** A call that comes to a FAULT: -10 less it, fault() tells it, all else stays. */
    static void faulty(int fault, ToIntFunction<ByHand> call) {
        leavesAll(-10 - fault, fault, call::applyAsInt);
    }

    /** The same where a long is answered. */
    static void faultyLong(int fault, ToLongFunction<ByHand> call) {
        leavesAll(ByHand.LOST, fault, call);
    }

    private static void leavesAll(long due, int fault, ToLongFunction<ByHand> call) {
        ByHand x = full();
        Check.due("the call", call.applyAsLong(x), due);
        Check.due("fault() behind it", x.fault(), fault);
        Check.holds("it changes nothing", told(x).equals(TOLD));
    }

    /** The first numbers beside a range, and those farthest off. */
    static int[] beside(int least, int greatest) {
        return new int[] {least - 1, greatest + 1, LEAST, MOST};
    }
}
