/** Promises 1 to 4: a new object, its MARKET and WEIGHTS. */
public final class MarketTest {
    public static void main(String[] args) {
        promise1NewObject();
        promise2MarketTaken();
        promise2FirstFault();
        promise2MakesAllAnew();
        promise2Refusals();
        promise2Faults();
        promise3Weight();
        promise4Weigh();
        Check.end("MarketTest");
    }

    private static void promise1NewObject() {
        ByHand x = new ByHand();
        for (int what = 0; what < 3; what++) {
            Check.due("new many " + what, x.many(what), 0);
        }
        for (int k = 0; k < 4; k++) {
            Check.due("new lose " + k, x.lose(k), 0);
            Check.due("new cell " + k, x.cell(k, 0, 0), ByHand.LOST);
            Check.due("new cell's fault " + k, x.fault(), 1);
        }
        Check.due("new trace", x.trace(), 0);
        Check.due("new fault", new ByHand().fault(), 0);
        Check.due("new hand", x.hand(0, 1), ByHand.STATE);
        Check.due("new weight", x.weight(0), ByHand.UNKNOWN);
    }

    private static void promise2MarketTaken() {
        ByHand x = Check.with(1, 999);
        Check.due("least", x.weight(0), 1);
        Check.due("greatest", x.weight(1), 999);
        x = Check.with(100, 20, 3, 405, 60, 700, 8, 909);
        int[] due = {100, 20, 3, 405, 60, 700, 8, 909};
        for (int i = 0; i < due.length; i++) {
            Check.due("weight " + i, x.weight(i), due[i]);
        }
        for (int sort = 0; sort < 3; sort++) {
            x = new ByHand();
            Check.fill(x, 3, sort, 7, 48, 48, 49, 59, 50, 51, 52, 59, 7);
            Check.due("market from 1 on", x.market(3, sort, 1, 7), 2);
            Check.due("its first", x.weight(0), 1);
            Check.due("its second", x.weight(1), 234);
            Check.due("market that begins too late", x.market(3, sort, 2, 7), -100 - 2);
            Check.due("stays", x.many(0), 2);
        }
    }

    private static void promise2FirstFault() {
        String[] texts = {"", "1", "12", "123", "123;", "123;4", "123;45", "123;456;", "000;123", "123;000", "00;123",
            "123456", ";123;456", "123;;456", "123;4a6", "123:456", "12/;456", "123;456;;", "123;456 ", "010;0", "00:"};
        int[] faults = {0, 1, 2, 3, 4, 5, 6, 8, 2, 6, 2, 3, 0, 4, 5, 3, 2, 8, 7, 5, 2};
        for (int i = 0; i < texts.length; i++) {
            ByHand x = new ByHand();
            Check.due("market " + texts[i], Check.market(x, texts[i]), -100 - faults[i]);
            Check.due("fault() of a FIRST FAULT", x.fault(), 0);
            Check.due("no THINGS of it", x.many(0), 0);
        }
        String eight = "001;002;003;004;005;006;007;008";
        Check.due("eight", Check.market(new ByHand(), eight), 8);
        Check.due("a ; ahead of a ninth", Check.market(new ByHand(), eight + ";"), -131);
        Check.due("nine", Check.market(new ByHand(), eight + ";009"), -131);
        Check.due("a digit behind eight", Check.market(new ByHand(), eight + "1"), -131);
        Check.due("eight, cut", Check.market(new ByHand(), eight.substring(0, 30)), -130);
        ByHand ints = new ByHand();
        Check.fill(ints, 0, 2, 49, 48, 48 + 256, 59, 49, 48, 48);
        Check.due("an int that is no code", ints.market(0, 2, 0, 7), -102);
        Check.due("set to a byte's", ints.put(0, 2, -208), 1);
        Check.due("a number below 0", ints.market(0, 2, 0, 7), -102);
    }

    private static void promise2MakesAllAnew() {
        ByHand x = Check.with(100, 200, 300);
        x.hand(0, 1);
        x.saying(0, 0, 1, 1);
        x.tell(0);
        Check.fill(x, 1, 2, 77);
        Check.due("a wrong TEXT", Check.market(x, "1"), -101);
        Check.due("leaves HANDS", x.many(1), 1);
        Check.due("leaves SAYINGS", x.many(2), 1);
        Check.due("leaves THINGS", x.many(0), 3);
        Check.due("another TEXT", Check.market(x, "005;006"), 2);
        Check.due("no HANDS", x.many(1), 0);
        Check.due("no SAYINGS", x.many(2), 0);
        Check.due("THINGS anew", x.many(0), 2);
        Check.due("WEIGHTS anew", x.weight(0), 5);
        Check.due("none behind", x.weight(2), ByHand.UNKNOWN);
        Check.due("TRACE stays", x.trace(), 1);
        Check.due("SHEETS stay", x.cell(1, 0, 2), 77);
        Check.due("FALSE anew", x.untrue(), 0);
        Check.due("HANDS from 0 on", x.hand(2, 3), 0);
        Check.due("its kind", x.ofHand(0, 0), 2);
    }

    private static void promise2Refusals() {
        ByHand x = new ByHand();
        Check.due("sheet -1, sort 3", x.market(-1, 3, -1, -1), ByHand.UNKNOWN);
        Check.due("sheet 4", x.market(4, 0, 0, 0), ByHand.UNKNOWN);
        Check.due("sort -1", x.market(0, -1, 0, -1), ByHand.OUTSIDE);
        Check.due("sort 3", x.market(3, 3, 0, 0), ByHand.OUTSIDE);
        x.put(0, 0, 0);
        Check.due("a FAULT", x.fault(), 1);
        x.market(4, 0, 0, 0);
        Check.due("a refused one came to none", x.fault(), 0);
    }

    private static void promise2Faults() {
        ByHand x = new ByHand();
        Check.due("NULL ahead of SIZE", x.market(0, 1, 0, -1), -11);
        Check.due("NULL told", x.fault(), 1);
        x.sheet(0, 1, 7);
        Check.due("CAST ahead of SIZE", x.market(0, 0, 9, -1), -12);
        Check.due("CAST told", x.fault(), 2);
        Check.due("CAST of ints", x.market(0, 2, 0, 7), -12);
        Check.due("SIZE ahead of INDEX", x.market(0, 1, -1, -1), -14);
        Check.due("SIZE told", x.fault(), 4);
        int[][] beyond = {{-1, 1}, {0, 8}, {1, 7}, {7, 1}, {8, 0}, {-1, 0}, {1, Integer.MAX_VALUE},
            {Integer.MAX_VALUE, 1}, {Integer.MAX_VALUE, Integer.MAX_VALUE}, {Integer.MIN_VALUE, 3}};
        for (int[] cells : beyond) {
            Check.due("INDEX " + cells[0] + ", " + cells[1], x.market(0, 1, cells[0], cells[1]), -13);
            Check.due("INDEX told", x.fault(), 3);
        }
        Check.due("none at the end", x.market(0, 1, 7, 0), -100);
        Check.due("no FAULT", x.fault(), 0);
        x.sheet(0, 0, 0);
        Check.due("none of none", x.market(0, 0, 0, 0), -100);
        Check.due("one of none", x.market(0, 0, 1, 0), -13);
    }

    private static void promise3Weight() {
        ByHand x = Check.with(7, 8);
        Check.due("weight 1", x.weight(1), 8);
        Check.due("weight 2", x.weight(2), ByHand.UNKNOWN);
        Check.due("weight -1", x.weight(-1), ByHand.UNKNOWN);
        Check.due("weight min", x.weight(Integer.MIN_VALUE), ByHand.UNKNOWN);
    }

    private static void promise4Weigh() {
        ByHand x = Check.with(7, 8);
        Check.due("weigh", x.weigh(1, 999), 8);
        Check.due("weighed", x.weight(1), 999);
        Check.due("the other one", x.weight(0), 7);
        Check.due("weigh 1", x.weigh(1, 1), 999);
        Check.due("weigh 0", x.weigh(1, 0), ByHand.OUTSIDE);
        Check.due("weigh 1000", x.weigh(1, 1000), ByHand.OUTSIDE);
        Check.due("weigh UNKNOWN first", x.weigh(2, 0), ByHand.UNKNOWN);
        Check.due("weigh -1", x.weigh(-1, 5), ByHand.UNKNOWN);
        Check.due("stays", x.weight(1), 1);
    }
}
