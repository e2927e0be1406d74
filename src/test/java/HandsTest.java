/** Promises 5 to 9: HANDS and what they TELL. */
public final class HandsTest {
    public static void main(String[] args) {
        promise5Hand();
        promise6OfHand();
        promise7Tells();
        promise8Alike();
        promise9Finer();
        Check.end("HandsTest");
    }

    private static void promise5Hand() {
        ByHand x = new ByHand();
        Check.due("OUTSIDE ahead of STATE", x.hand(0, 0), ByHand.OUTSIDE);
        Check.due("STATE", x.hand(0, 1), ByHand.STATE);
        x = Check.with(1, 2);
        Check.due("kind -1", x.hand(-1, 1), ByHand.OUTSIDE);
        Check.due("kind 3", x.hand(3, 1), ByHand.OUTSIDE);
        Check.due("part 0", x.hand(0, 0), ByHand.OUTSIDE);
        Check.due("part 21", x.hand(0, 21), ByHand.OUTSIDE);
        Check.due("none yet", x.many(1), 0);
        for (int h = 0; h < 6; h++) {
            Check.due("hand " + h, x.hand(h % 3, h == 5 ? 20 : h + 1), h);
            Check.due("so many", x.many(1), h + 1);
        }
        Check.due("FULL", x.hand(0, 1), ByHand.FULL);
        Check.due("OUTSIDE ahead of FULL", x.hand(0, 21), ByHand.OUTSIDE);
        Check.due("six", x.many(1), 6);
    }

    private static void promise6OfHand() {
        ByHand x = Check.with(1, 2);
        x.hand(2, 20);
        x.hand(0, 1);
        Check.due("kind", x.ofHand(0, 0), 2);
        Check.due("PART", x.ofHand(0, 1), 20);
        Check.due("kind of 1", x.ofHand(1, 0), 0);
        Check.due("PART of 1", x.ofHand(1, 1), 1);
        Check.due("what 2", x.ofHand(1, 2), ByHand.OUTSIDE);
        Check.due("what -1", x.ofHand(1, -1), ByHand.OUTSIDE);
        Check.due("UNKNOWN first", x.ofHand(2, 2), ByHand.UNKNOWN);
        Check.due("hand -1", x.ofHand(-1, 0), ByHand.UNKNOWN);
    }

    private static void promise7Tells() {
        ByHand x = Check.with(1, 2);
        x.hand(0, 10);
        x.hand(1, 10);
        x.hand(2, 10);
        int[][] due = {
            // WEIGHT, than, HAND, STEADY, SMITH
            {110, 100, 0, 1, 1}, {111, 100, 1, 1, 1}, {105, 100, 0, 0, 1}, {104, 100, 0, 0, 0}, {106, 100, 0, 1, 1},
            {100, 100, 0, 0, 0}, {100, 111, 0, 0, 0}, {100, 9999, 0, 0, 0}, {9999, 1, 1, 1, 1}, {1, 1, 0, 0, 0},
            {2, 1, 1, 1, 1}, {11, 10, 0, 1, 1}, {21, 20, 0, 0, 1}, {22, 21, 0, 0, 0}, {9999, 9523, 0, 0, 0},
            {9999, 9522, 0, 1, 1}};
        for (int[] row : due) {
            for (int h = 0; h < 3; h++) {
                Check.due("tells " + h + ", " + row[0] + ", " + row[1], x.tells(h, row[0], row[1]), row[2 + h]);
            }
        }
        Check.due("0", x.tells(0, 0, 1), ByHand.OUTSIDE);
        Check.due("than 0", x.tells(0, 1, 0), ByHand.OUTSIDE);
        Check.due("10000", x.tells(0, 10000, 1), ByHand.OUTSIDE);
        Check.due("than 10000", x.tells(0, 1, 10000), ByHand.OUTSIDE);
        Check.due("than 9999", x.tells(0, 1, 9999), 0);
        Check.due("UNKNOWN first", x.tells(3, 0, 0), ByHand.UNKNOWN);
        Check.due("hand -1", x.tells(-1, 1, 1), ByHand.UNKNOWN);
        x.hand(2, 1);
        Check.due("a SMITH of PART 1", x.tells(3, 3, 2), 1);
        Check.due("not lighter", x.tells(3, 2, 3), 0);
    }

    private static void promise8Alike() {
        ByHand x = Check.with(100, 110, 121, 122, 100);
        x.hand(0, 10);
        Check.due("alike 0", x.alike(0, 0), 0b10011);
        Check.due("alike 1", x.alike(0, 1), 0b10111);
        Check.due("alike 2", x.alike(0, 2), 0b01110);
        Check.due("alike 3", x.alike(0, 3), 0b01100);
        x.weigh(3, 1);
        Check.due("WEIGHTS as they are", x.alike(0, 2), 0b00110);
        Check.due("itself", x.alike(0, 3), 0b01000);
        Check.due("THING 5", x.alike(0, 5), ByHand.UNKNOWN);
        Check.due("THING -1", x.alike(0, -1), ByHand.UNKNOWN);
        Check.due("HAND 1", x.alike(1, 0), ByHand.UNKNOWN);
        Check.due("HAND -1", x.alike(-1, 0), ByHand.UNKNOWN);
    }

    private static void promise9Finer() {
        ByHand x = Check.with(100, 108, 130);
        x.hand(0, 10);
        x.hand(1, 10);
        x.hand(0, 19);
        x.hand(2, 6);
        Check.due("finer than itself", x.finer(1, 1), 0);
        Check.due("finer", x.finer(1, 0), 1);
        Check.due("coarser", x.finer(0, 1), 0);
        Check.due("just as much", x.finer(1, 2), 0);
        Check.due("just as much, too", x.finer(2, 1), 0);
        Check.due("a coarse SMITH of as much", x.finer(3, 0), 0);
        x.weigh(1, 125);
        x.weigh(2, 126);
        Check.due("not by WEIGHTS now", x.finer(1, 0), 0);
        Check.due("UNKNOWN", x.finer(4, 0), ByHand.UNKNOWN);
        ByHand two = Check.with(108, 100);
        two.hand(0, 10);
        two.hand(1, 10);
        Check.due("by the first THING alone", two.finer(1, 0), 1);
        Check.due("not the other way", two.finer(0, 1), 0);
        Check.due("UNKNOWN than", x.finer(0, 4), ByHand.UNKNOWN);
        Check.due("UNKNOWN -1", x.finer(-1, 0), ByHand.UNKNOWN);
        Check.due("UNKNOWN than -1", x.finer(0, -1), ByHand.UNKNOWN);
    }
}
