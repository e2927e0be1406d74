/** Promises 26 to 36: SHEETS, TELLING, FAULTS and how many there are. */
public final class SheetsTest {
    public static void main(String[] args) {
        promise26Sheet();
        promise27Lose();
        promise28Put();
        promise29Cell();
        promise30Copy();
        promise30Faults();
        promise31Tell();
        promise32Shake();
        promise33As();
        promise34Trace();
        promise35Fault();
        promise36Many();
        Check.end("SheetsTest");
    }

    private static void promise26Sheet() {
        ByHand x = new ByHand();
        Check.due("UNKNOWN first", x.sheet(4, 3, -1), ByHand.UNKNOWN);
        Check.due("SHEET -1", x.sheet(-1, 0, 1), ByHand.UNKNOWN);
        Check.due("OUTSIDE ahead of SIZE", x.sheet(0, 3, -1), ByHand.OUTSIDE);
        Check.due("sort -1", x.sheet(0, -1, 1), ByHand.OUTSIDE);
        Check.due("41", x.sheet(0, 0, 41), ByHand.OUTSIDE);
        Check.due("came to none", x.fault(), 0);
        Check.due("SIZE", x.sheet(0, 0, -1), -14);
        Check.due("SIZE told", x.fault(), 4);
        Check.due("SIZE far", x.sheet(0, 0, Integer.MIN_VALUE), -14);
        Check.due("still nothing", x.lose(0), 0);
        Check.due("40", x.sheet(0, 2, 40), 1);
        Check.due("no FAULT", x.fault(), 0);
        for (int i = 0; i < 40; i++) {
            Check.due("0 at first", x.cell(0, i, 2), 0);
            x.put(0, i, i + 1);
        }
        Check.due("no more", x.cell(0, 40, 2), ByHand.LOST);
        Check.due("refused", x.sheet(0, 0, -1), -14);
        Check.due("stays", x.cell(0, 39, 2), 40);
        Check.due("a new row", x.sheet(0, 1, 3), 1);
        Check.due("0 anew", x.cell(0, 2, 1), 0);
        Check.due("shorter", x.cell(0, 3, 1), ByHand.LOST);
        Check.due("none at all", x.sheet(3, 0, 0), 1);
        Check.due("no cell", x.cell(3, 0, 0), ByHand.LOST);
        Check.due("but a row", x.lose(3), 1);
        x.sheet(0, 2, 40);
        Check.due("0 behind, too", x.cell(0, 39, 2), 0);
    }

    private static void promise27Lose() {
        ByHand x = new ByHand();
        Check.due("nothing", x.lose(2), 0);
        Check.fill(x, 2, 0, 1);
        Check.due("something", x.lose(2), 1);
        Check.due("nothing again", x.lose(2), 0);
        Check.due("put", x.put(2, 0, 0), -11);
        Check.due("SHEET 4", x.lose(4), ByHand.UNKNOWN);
        Check.due("SHEET -1", x.lose(-1), ByHand.UNKNOWN);
        Check.due("names no FAULT", x.fault(), 1);
        x.sheet(2, 0, 1);
        Check.due("0 anew", x.cell(2, 0, 0), 0);
    }

    private static void promise28Put() {
        ByHand x = new ByHand();
        Check.due("SHEET 4", x.put(4, -1, 0), ByHand.UNKNOWN);
        Check.due("SHEET -1", x.put(-1, -1, 0), ByHand.UNKNOWN);
        Check.due("NULL ahead of INDEX", x.put(1, -1, 0), -11);
        Check.due("NULL told", x.fault(), 1);
        x.sheet(1, 0, 2);
        int[] beyond = {-1, 2, Integer.MAX_VALUE, Integer.MIN_VALUE};
        for (int i : beyond) {
            Check.due("INDEX " + i, x.put(1, i, 0), -13);
            Check.due("INDEX told", x.fault(), 3);
        }
        Check.due("put", x.put(1, 1, 127), 1);
        Check.due("no FAULT", x.fault(), 0);
        int[] numbers = {0, 1, -1, 127, 128, 255, 256, -128, -129, 32767, 32768, 65535, -32768, -32769,
            Integer.MAX_VALUE, Integer.MIN_VALUE};
        for (int v : numbers) {
            for (int sort = 0; sort < 3; sort++) {
                Check.fill(x, sort, sort, 0, v);
                long due = sort == 0 ? (byte) v : sort == 1 ? (short) v : v;
                Check.due("cut", x.cell(sort, 1, sort), due);
                Check.due("the one ahead", x.cell(sort, 0, sort), 0);
            }
        }
    }

    private static void promise29Cell() {
        ByHand x = new ByHand();
        lost(x, 4, 0, 0, 0);
        lost(x, -1, 0, 0, 0);
        lost(x, 0, 0, 3, 0);
        lost(x, 0, 0, -1, 0);
        lost(x, 0, -1, 2, 1);
        Check.fill(x, 0, 1, 5, -6);
        lost(x, 0, -1, 0, 2);
        lost(x, 0, 0, 2, 2);
        lost(x, 0, -1, 1, 3);
        lost(x, 0, 2, 1, 3);
        lost(x, 0, Integer.MAX_VALUE, 1, 3);
        lost(x, 0, Integer.MIN_VALUE, 1, 3);
        lost(x, 0, 0, 3, 0);
        Check.due("cell", x.cell(0, 0, 1), 5);
        Check.due("no FAULT", x.fault(), 0);
        Check.due("below 0", x.cell(0, 1, 1), -6);
    }

    private static void lost(ByHand x, int k, int i, int sort, int fault) {
        Check.due("cell " + k + ", " + i + ", " + sort, x.cell(k, i, sort), ByHand.LOST);
        Check.due("its fault()", x.fault(), fault);
    }

    private static void row(ByHand x, int k, int sort, int... due) {
        for (int i = 0; i < due.length; i++) {
            Check.due("cell " + i, x.cell(k, i, sort), due[i]);
        }
    }

    private static void promise30Copy() {
        ByHand x = new ByHand();
        Check.fill(x, 0, 2, 1, 2, 3, 4, 5);
        Check.fill(x, 1, 2, 6, 7, 8);
        Check.due("copy", x.copy(0, 1, 1, 0, 2), 2);
        row(x, 1, 2, 2, 3, 8);
        row(x, 0, 2, 1, 2, 3, 4, 5);
        Check.due("to the right", x.copy(0, 0, 0, 1, 4), 4);
        row(x, 0, 2, 1, 1, 2, 3, 4);
        Check.due("to the left", x.copy(0, 1, 0, 0, 4), 4);
        row(x, 0, 2, 1, 2, 3, 4, 4);
        Check.due("none at the ends", x.copy(0, 5, 1, 3, 0), 0);
        Check.due("all", x.copy(1, 0, 0, 2, 3), 3);
        row(x, 0, 2, 1, 2, 2, 3, 8);
        Check.due("to its own place", x.copy(1, 0, 1, 0, 3), 3);
        row(x, 1, 2, 2, 3, 8);
        Check.fill(x, 2, 0, -128, 127);
        Check.fill(x, 3, 0, 1, 1);
        Check.due("bytes", x.copy(2, 0, 3, 0, 2), 2);
        row(x, 3, 0, -128, 127);
    }

    private static void promise30Faults() {
        ByHand x = new ByHand();
        int[][] unknown = {{4, 0}, {-1, 0}, {0, 4}, {0, -1}};
        for (int[] call : unknown) {
            Check.due("copy", x.copy(call[0], -1, call[1], -1, -1), ByHand.UNKNOWN);
            Check.due("came to none", x.fault(), 0);
        }
        fault(x, 0, 0, 1, 0, 1, 1);
        x.sheet(0, 0, 3);
        fault(x, 0, 9, 1, 0, 1, 1);
        fault(x, 1, 9, 0, 0, 1, 1);
        x.sheet(1, 1, 2);
        fault(x, 0, -1, 1, 0, -1, 2);
        x.sheet(1, 0, 2);
        int[][] beyond = {{-1, 0, 0}, {0, -1, 0}, {0, 0, -1}, {4, 0, 0}, {0, 3, 0}, {0, 0, 3}, {2, 0, 2}, {0, 1, 2},
            {1, 0, Integer.MAX_VALUE}, {Integer.MAX_VALUE, 0, 1}, {0, Integer.MAX_VALUE, 1}, {0, 0, Integer.MIN_VALUE}};
        for (int[] call : beyond) {
            fault(x, 0, call[0], 1, call[1], call[2], 3);
        }
        Check.due("none", x.copy(0, 3, 1, 2, 0), 0);
        Check.due("no FAULT", x.fault(), 0);
    }

    private static void fault(ByHand x, int k, int i, int other, int j, int n, int fault) {
        Check.due("copy " + i + ", " + j + ", " + n, x.copy(k, i, other, j, n), -10 - fault);
        Check.due("its fault()", x.fault(), fault);
    }

    private static void promise31Tell() {
        ByHand x = Check.with(1, 2);
        Check.due("HAND 0", x.tell(0), ByHand.UNKNOWN);
        Check.due("no TRACE", x.trace(), 0);
        x.hand(0, 7);
        x.hand(1, 8);
        x.hand(2, 9);
        Check.due("a HAND", x.tell(0), 7);
        Check.due("its TRACE", x.trace(), 1);
        Check.due("a STEADY one", x.tell(1), 108);
        Check.due("its TRACE", x.trace(), (1 * 31 + 2) * 31 + 1);
        Check.due("a SMITH", x.tell(2), 118);
        Check.due("its TRACE", x.trace(), (((1024 * 31) + 3) * 31 + 2) * 31 * 31 + 31 + 1);
        Check.due("HAND -1", x.tell(-1), ByHand.UNKNOWN);
        Check.due("HAND 3", x.tell(3), ByHand.UNKNOWN);
    }

    private static void promise32Shake() {
        ByHand x = Check.with(1, 2);
        Check.due("HAND 0", x.shake(0), ByHand.UNKNOWN);
        x.hand(2, 7);
        x.hand(0, 7);
        x.hand(1, 7);
        Check.due("a SMITH", x.shake(0), 60);
        Check.due("its TRACE", x.trace(), 5);
        Check.due("a HAND", x.shake(1), 1);
        Check.due("its TRACE", x.trace(), 5 * 31 + 4);
        Check.due("a STEADY one", x.shake(2), 2);
        Check.due("its TRACE", x.trace(), (5 * 31 + 4) * 31 + 4);
        Check.due("HAND -1", x.shake(-1), ByHand.UNKNOWN);
        Check.due("HAND 3", x.shake(3), ByHand.UNKNOWN);
    }

    private static void promise33As() {
        ByHand x = Check.with(1, 2);
        x.hand(0, 1);
        x.hand(1, 1);
        x.hand(2, 1);
        for (int h = 0; h < 3; h++) {
            for (int kind = 0; kind < 3; kind++) {
                Check.due("as " + h + ", " + kind, x.as(h, kind), kind <= h ? 1 : -12);
                Check.due("its fault()", x.fault(), kind <= h ? 0 : 2);
            }
        }
        x.as(0, 2);
        Check.due("kind 3", x.as(0, 3), ByHand.OUTSIDE);
        Check.due("came to none", x.fault(), 0);
        Check.due("kind -1", x.as(0, -1), ByHand.OUTSIDE);
        Check.due("UNKNOWN first", x.as(3, 3), ByHand.UNKNOWN);
        Check.due("HAND -1", x.as(-1, 0), ByHand.UNKNOWN);
    }

    private static void promise34Trace() {
        ByHand x = Check.with(1, 2);
        x.hand(0, 1);
        int due = 0;
        for (int times = 0; times < 30; times++) {
            x.shake(0);
            due = 31 * due + 4;
            Check.due("a TRACE that wraps", x.trace(), due);
        }
        Check.due("stays", x.trace(), due);
    }

    private static void promise35Fault() {
        ByHand x = Check.with(1, 2);
        Check.due("0 ahead of any", new ByHand().fault(), 0);
        x.hand(0, 1);
        x.put(3, 0, 0);
        x.weight(9);
        x.tells(0, 0, 0);
        x.saying(0, 0, 0, 0);
        x.lose(9);
        x.tell(0);
        x.many(3);
        x.odds(9, 9);
        Check.due("of the latest call that names one", x.fault(), 1);
        Check.due("asked again", x.fault(), 1);
        x.sheet(9, 0, 0);
        Check.due("sheet", x.fault(), 0);
        x.sheet(3, 0, -1);
        Check.due("sheet's own", x.fault(), 4);
        x.as(9, 9);
        Check.due("as", x.fault(), 0);
        x.cell(2, 0, 0);
        Check.due("cell's own", x.fault(), 1);
        x.copies(1, 9, 0, 0, 0, 0);
        Check.due("copies", x.fault(), 0);
        x.as(0, 2);
        Check.due("as's own", x.fault(), 2);
        x.bestRow(1, 9, 0, 0, 0, 0);
        Check.due("bestRow", x.fault(), 0);
        x.copy(2, 0, 2, 0, 0);
        Check.due("copy's own", x.fault(), 1);
        x.market(0, 9, 0, 0);
        Check.due("market", x.fault(), 0);
        x.put(2, 0, 0);
        x.put(9, 0, 0);
        Check.due("put", x.fault(), 0);
        x.put(2, 0, 0);
        x.copy(9, 0, 0, 0, 0);
        Check.due("copy", x.fault(), 0);
        x.put(2, 0, 0);
        x.cell(9, 0, 0);
        Check.due("cell", x.fault(), 0);
        Check.fill(x, 2, 0, 0);
        x.put(1, 0, 0);
        Check.due("copies that come to none", x.copies(1, 2, 0, 0, 1, 0), 2);
        Check.due("0", x.fault(), 0);
        x.put(1, 0, 0);
        Check.due("bestRow that comes to none", x.bestRow(1, 2, 0, 0, 1, 0), 0);
        Check.due("0", x.fault(), 0);
        x.put(1, 0, 0);
        Check.due("a market that comes to none", x.market(0, 0, 0, 7), 2);
        Check.due("0", x.fault(), 0);
    }

    private static void promise36Many() {
        ByHand x = Check.with(1, 2, 3);
        x.hand(0, 1);
        x.hand(0, 2);
        x.saying(0, 0, 1, 1);
        Check.due("THINGS", x.many(0), 3);
        Check.due("HANDS", x.many(1), 2);
        Check.due("SAYINGS", x.many(2), 1);
        Check.due("3", x.many(3), ByHand.OUTSIDE);
        Check.due("-1", x.many(-1), ByHand.OUTSIDE);
        Check.due("max", x.many(Integer.MAX_VALUE), ByHand.OUTSIDE);
    }
}
