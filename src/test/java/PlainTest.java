/** Long runs of drawn calls, each answer compared with that of the other way to write the class. */
public final class PlainTest {
    private static final int RUNS = 1000;
    // A call below may be some 60 of the class's; an object is promised for 512 of them.
    private static final int CALLS = 440;
    private static final int[] FAR = {-1, -2, Integer.MIN_VALUE, Integer.MAX_VALUE, 1000, 10000, 41, 256};
    private static long seed = 12345;

    private final ByHand x = new ByHand();
    private final Plain plain = new Plain();
    private int calls = 0;

    public static void main(String[] args) {
        for (int run = 0; run < RUNS; run++) {
            new PlainTest().run(run);
        }
        Check.end("PlainTest");
    }

    /** The same numbers in each run of the test: no random source. */
    private static int drawn(int least, int greatest) {
        seed = seed * 6364136223846793005L + 1442695040888963407L;
        return least + (int) Math.floorMod(seed >>> 33, (long) greatest - least + 1);
    }

    /** A number from least to greatest most of the time, now and then one beside them or far off. */
    private static int near(int least, int greatest) {
        int luck = drawn(0, 39);
        if (luck == 0) {
            return FAR[drawn(0, FAR.length - 1)];
        }
        return luck == 1 ? least - 1 : luck == 2 ? greatest + 1 : drawn(least, Math.max(least, greatest));
    }

    private void due(String call, long got, long want) {
        calls++;
        Check.due(call, got, want);
    }

    private void run(int run) {
        if (run % 8 != 0) {
            market(drawn(2, run % 20 == 3 ? 8 : 6));
        }
        while (calls < CALLS) {
            if (drawn(0, 49) == 0 && run % 20 != 3) {
                market(drawn(2, 6));
            }
            call();
            due("fault()", x.fault(), plain.fault());
        }
        for (int k = 0; k < 3; k++) {
            due("many", x.many(k), plain.many(k));
        }
    }

    private void market(int things) {
        StringBuilder text = new StringBuilder();
        int around = drawn(1, 900);
        for (int i = 0; i < things; i++) {
            int weight = drawn(0, 4) == 0 ? drawn(1, 999) : Math.min(999, around + drawn(0, 1 + around / 3));
            text.append(i == 0 ? "" : ";").append(String.format("%03d", weight));
        }
        if (drawn(0, 5) == 0) {
            text.setCharAt(drawn(0, text.length() - 1), "0;:/19".charAt(drawn(0, 5)));
        }
        if (drawn(0, 9) == 0) {
            text.setLength(drawn(0, text.length()));
        }
        int k = drawn(0, 3);
        int sort = drawn(0, 2);
        int from = Math.min(drawn(0, 3), 40 - text.length());
        due("sheet", x.sheet(k, sort, from + text.length()), plain.sheet(k, sort, from + text.length()));
        for (int i = 0; i < text.length(); i++) {
            due("put", x.put(k, from + i, text.charAt(i)), plain.put(k, from + i, text.charAt(i)));
        }
        due("market " + text, x.market(k, sort, from, text.length()), plain.market(k, sort, from, text.length()));
    }

    private int aThing() {
        return near(0, plain.many(0) - 1);
    }

    private int aHand() {
        return near(0, Math.max(0, plain.many(1) - 1));
    }

    private void call() {
        int which = drawn(0, 35);
        if (which < 12) {
            handCall(which);
        } else if (which < 18) {
            sayingCall(which);
        } else if (which < 26) {
            rowCall(which);
        } else {
            sheetCall(which);
        }
    }

    private void handCall(int which) {
        int h = aHand();
        int a = aThing();
        int b = aThing();
        switch (which) {
            case 0: due("weight " + a, x.weight(a), plain.weight(a)); break;
            case 1: weigh(a); break;
            case 2:
            case 3: hand(near(0, 2), near(1, 20)); break;
            case 4: ofHand(h, near(0, 1)); break;
            case 5: tells(h, near(1, 9999)); break;
            case 6: due("alike " + h + ", " + a, x.alike(h, a), plain.alike(h, a)); break;
            case 7: finer(h, aHand()); break;
            case 8:
            case 9: way(h, a, b); break;
            case 10: noon(h, a, drawn(0, 2) == 0 ? near(0, 99) : near(0, 4)); break;
            default: gain(h, aHand(), a, near(0, 8));
        }
    }

    private void weigh(int a) {
        int v = drawn(0, 2) == 0 ? near(1, 999) : plain.weight(0) + drawn(0, 30);
        due("weigh " + a + ", " + v, x.weigh(a, v), plain.weigh(a, v));
    }

    private void hand(int kind, int part) {
        due("hand " + kind + ", " + part, x.hand(kind, part), plain.hand(kind, part));
    }

    private void ofHand(int h, int what) {
        due("ofHand " + h + ", " + what, x.ofHand(h, what), plain.ofHand(h, what));
    }

    private void tells(int h, int weight) {
        int than = drawn(0, 3) == 0 ? near(1, 9999) : weight - weight / drawn(2, 45) + drawn(-2, 2);
        due("tells " + h + ", " + weight + ", " + than, x.tells(h, weight, than), plain.tells(h, weight, than));
        due("tells " + h + ", " + than + ", " + weight, x.tells(h, than, weight), plain.tells(h, than, weight));
    }

    private void finer(int h, int than) {
        due("finer " + h + ", " + than, x.finer(h, than), plain.finer(h, than));
    }

    private void way(int h, int a, int b) {
        for (int q = near(-1, 5) - 1; q < 5; q++) {
            due("way " + h + ", " + a + ", " + b + ", " + q, x.way(h, a, b, q), plain.way(h, a, b, q));
            if (q < -2) {
                break;
            }
        }
    }

    private void noon(int h, int a, int k) {
        due("noon " + h + ", " + a + ", " + k, x.noon(h, a, k), plain.noon(h, a, k));
    }

    private void gain(int theirs, int own, int a, int k) {
        int what = near(0, 1);
        String call = "gain " + theirs + ", " + own + ", " + a + ", " + k + ", " + what;
        due(call, x.gain(theirs, own, a, k, what), plain.gain(theirs, own, a, k, what));
    }

    private void sayingCall(int which) {
        int a = aThing();
        switch (which) {
            case 12:
            case 13: saying(aHand(), a, aThing(), near(0, 1)); break;
            case 14: back(near(0, 3)); break;
            case 15: due("untrue", x.untrue(), plain.untrue()); break;
            case 16: leaves(a, near(0, 2)); break;
            default: breaks(a, near(0, 1));
        }
    }

    private void saying(int h, int a, int b, int said) {
        String call = "saying " + h + ", " + a + ", " + b + ", " + said;
        due(call, x.saying(h, a, b, said), plain.saying(h, a, b, said));
    }

    private void back(int k) {
        due("back " + k, x.back(k), plain.back(k));
    }

    private void leaves(int a, int what) {
        due("leaves " + a + ", " + what, x.leaves(a, what), plain.leaves(a, what));
    }

    private void breaks(int a, int what) {
        due("breaks " + a + ", " + what, x.breaks(a, what), plain.breaks(a, what));
    }

    private void rowCall(int which) {
        int h = aHand();
        int what = near(0, 1);
        switch (which) {
            case 18: rows(h, near(-1, plain.many(0) - 1)); break;
            case 19: due("longest " + h, x.longest(h), plain.longest(h)); break;
            case 20: due("crowd " + h, x.crowd(h), plain.crowd(h)); break;
            case 21: due("measure " + h + ", " + what, x.measure(h, what), plain.measure(h, what)); break;
            case 22: due("even " + h + ", " + what, x.even(h, what), plain.even(h, what)); break;
            case 23: due("odds " + h + ", " + what, x.odds(h, what), plain.odds(h, what)); break;
            default: handRow();
        }
    }

    private void rows(int h, int q) {
        due("rows " + h + ", " + q, x.rows(h, q), plain.rows(h, q));
    }

    private void handRow() {
        int k = near(0, 3);
        int sort = near(0, 2);
        int n = near(1, 5);
        int from = near(0, 1);
        if (drawn(0, 9) > 0) {
            due("sheet", x.sheet(k, sort, 6), plain.sheet(k, sort, 6));
            for (int i = 0; i < 6; i++) {
                int h = aHand();
                due("put", x.put(k, i, h), plain.put(k, i, h));
            }
        }
        int weight = near(1, 999);
        int what = near(0, 1);
        int q = near(-1, n < 6 ? n - 1 : 4);
        String call = " of " + weight + ", " + k + ", " + sort + ", " + from + ", " + n;
        due("copies" + call, x.copies(weight, k, sort, from, n, what), plain.copies(weight, k, sort, from, n, what));
        due("fault()", x.fault(), plain.fault());
        due("bestRow" + call, x.bestRow(weight, k, sort, from, n, q), plain.bestRow(weight, k, sort, from, n, q));
    }

    private void sheetCall(int which) {
        int k = near(0, 3);
        int i = drawn(0, 2) == 0 ? near(0, 39) : near(0, 6);
        int h = aHand();
        int kind = near(0, 2);
        switch (which) {
            case 26: sheet(k, kind, drawn(0, 2) == 0 ? near(0, 40) : near(0, 8)); break;
            case 27: lose(k); break;
            case 28: put(k, i, drawn(0, 1) == 0 ? drawn(-70000, 70000) : near(-130, 260)); break;
            case 29: due("cell " + k + ", " + i + ", " + kind, x.cell(k, i, kind), plain.cell(k, i, kind)); break;
            case 30:
            case 31: copy(k, i, near(0, 3), near(0, 6)); break;
            case 32: due("tell " + h, x.tell(h), plain.tell(h)); break;
            case 33: due("shake " + h, x.shake(h), plain.shake(h)); break;
            case 34: due("as " + h + ", " + kind, x.as(h, kind), plain.as(h, kind)); break;
            default: due("many", x.many(kind), plain.many(kind));
        }
        due("trace", x.trace(), plain.trace());
    }

    private void sheet(int k, int sort, int n) {
        due("sheet " + k + ", " + sort + ", " + n, x.sheet(k, sort, n), plain.sheet(k, sort, n));
    }

    private void lose(int k) {
        if (drawn(0, 2) == 0) {
            due("lose " + k, x.lose(k), plain.lose(k));
        }
    }

    private void put(int k, int i, int v) {
        due("put " + k + ", " + i + ", " + v, x.put(k, i, v), plain.put(k, i, v));
    }

    private void copy(int k, int i, int other, int j) {
        int n = near(0, 5);
        String call = "copy " + k + ", " + i + ", " + other + ", " + j + ", " + n;
        due(call, x.copy(k, i, other, j, n), plain.copy(k, i, other, j, n));
        for (int sort = 0; sort < 3; sort++) {
            for (int c = 0; c < 9; c++) {
                due("cell behind " + call, x.cell(other, c, sort), plain.cell(other, c, sort));
            }
        }
        x.copy(k, i, other, j, n);
        plain.copy(k, i, other, j, n);
    }
}
