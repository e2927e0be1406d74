import java.util.ArrayList;
import java.util.List;

/**
 * The document's class once more, for tests alone and another way: kinds are Java classes, SHEETS are Java arrays whose
 * FAULTS the machine itself tells, and what is asked of swaps, orders and sets is tried out one by one.
 */
final class Plain {
    private static class Hand {
        final Plain plain;
        final int part;

        Hand(Plain plain, int part) {
            this.plain = plain;
            this.part = part;
        }

        int kind() {
            return 0;
        }

        boolean told(long weight, long than) {
            return weight > than && (weight - than) * part > than;
        }

        int telling() {
            return ownTelling();
        }

        int ownTelling() {
            plain.leave(1);
            return part;
        }

        int shaking() {
            plain.leave(4);
            return plain.hands.indexOf(this);
        }
    }

    private static class Steady extends Hand {
        Steady(Plain plain, int part) {
            super(plain, part);
        }

        @Override int kind() {
            return 1;
        }

        @Override boolean told(long weight, long than) {
            return weight > than && (weight - than) * 2 * part > than;
        }

        @Override int telling() {
            plain.leave(2);
            return super.telling() + 100;
        }
    }

    private static final class Smith extends Steady {
        Smith(Plain plain, int part) {
            super(plain, part);
        }

        @Override int kind() {
            return 2;
        }

        @Override boolean told(long weight, long than) {
            return weight > than && (weight - than) * 2 * part >= than;
        }

        @Override int telling() {
            plain.leave(3);
            return super.telling() + ownTelling();
        }

        @Override int shaking() {
            plain.leave(5);
            return 60;
        }
    }

    private static final class Saying {
        final Hand hand;
        final int x, y, said;

        Saying(Hand hand, int x, int y, int said) {
            this.hand = hand;
            this.x = x;
            this.y = y;
            this.said = said;
        }
    }

    private List<Integer> weights = new ArrayList<>();
    private final List<Hand> hands = new ArrayList<>();
    private final List<Saying> sayings = new ArrayList<>();
    private final Object[] sheets = new Object[4];
    private int trace = 0;
    private int fault = 0;

    private void leave(int body) {
        trace = 31 * trace + body;
    }

    private boolean noHand(int h) {
        return h < 0 || h >= hands.size();
    }

    private boolean noThing(int x) {
        return x < 0 || x >= weights.size();
    }

    private boolean not(int number, int least, int greatest) {
        return number < least || number > greatest;
    }

    private boolean alikeThings(int h, int x, int y) {
        return alikeBy(hands.get(h), weights.get(x), weights.get(y));
    }

    private static boolean alikeBy(Hand hand, int one, int other) {
        return !hand.told(one, other) && !hand.told(other, one);
    }

    private boolean toldThings(int h, int x, int y) {
        return hands.get(h).told(weights.get(x), weights.get(y));
    }

    // What a SHEET has, taken as a row of a SORT, as the machine does it.

    private static int sortOf(Object row) {
        return row instanceof byte[] ? 0 : row instanceof short[] ? 1 : 2;
    }

    private static long at(Object row, int sort, int i) {
        return sort == 0 ? ((byte[]) row)[i] : sort == 1 ? ((short[]) row)[i] : ((int[]) row)[i];
    }

    private static int lengthOf(Object row, int sort) {
        return sort == 0 ? ((byte[]) row).length : sort == 1 ? ((short[]) row).length : ((int[]) row).length;
    }

    /** Cells as a row; null, with fault set, if the machine finds a FAULT. */
    private int[] cells(int k, int sort, int i, int n) {
        try {
            int length = lengthOf(sheets[k], sort);
            int[] row = new int[n];
            java.util.Objects.checkFromIndexSize(i, n, length);
            for (int q = 0; q < n; q++) {
                row[q] = (int) at(sheets[k], sort, i + q);
            }
            return row;
        } catch (ClassCastException e) {
            fault = 2;
        } catch (NullPointerException e) {
            fault = 1;
        } catch (NegativeArraySizeException e) {
            fault = 4;
        } catch (IndexOutOfBoundsException e) {
            fault = 3;
        }
        return null;
    }

    int market(int k, int sort, int i, int n) {
        fault = 0;
        if (not(k, 0, 3)) {
            return -1;
        }
        if (not(sort, 0, 2)) {
            return -2;
        }
        int[] codes = n > 40 ? cells(k, sort, i, 41) : cells(k, sort, i, n);
        if (codes == null) {
            return -10 - fault;
        }
        StringBuilder text = new StringBuilder();
        for (int code : codes) {
            text.append(code >= 32 && code < 127 ? (char) code : '?');
        }
        int end = 0;
        while (end < n && canGoOn(text.substring(0, end + 1))) {
            end++;
        }
        String whole = text.toString();
        if (end < n || !whole.matches("\\d{3}(;\\d{3}){1,7}")) {
            return -100 - end;
        }
        List<Integer> read = new ArrayList<>();
        for (String part : whole.split(";")) {
            read.add(Integer.parseInt(part));
        }
        weights = read;
        hands.clear();
        sayings.clear();
        return read.size();
    }

    /** Whether some TEXT begins so: one is tried of as many THINGS as can be. */
    private static boolean canGoOn(String begin) {
        String[] behinds = {"", "1", "11", "111", ";111", "1;111", "11;111", "111;111"};
        for (String behind : behinds) {
            String whole = begin + behind;
            if (whole.matches("\\d{3}(;\\d{3}){1,7}") && !whole.contains("000")) {
                return true;
            }
        }
        return false;
    }

    int weight(int x) {
        return noThing(x) ? -1 : weights.get(x);
    }

    int weigh(int x, int v) {
        return noThing(x) ? -1 : not(v, 1, 999) ? -2 : weights.set(x, v);
    }

    int hand(int kind, int part) {
        if (not(kind, 0, 2) || not(part, 1, 20)) {
            return -2;
        }
        if (weights.isEmpty()) {
            return -3;
        }
        if (hands.size() == 6) {
            return -4;
        }
        hands.add(kind == 0 ? new Hand(this, part) : kind == 1 ? new Steady(this, part) : new Smith(this, part));
        return hands.size() - 1;
    }

    int ofHand(int h, int what) {
        return noHand(h) ? -1 : not(what, 0, 1) ? -2 : what == 0 ? hands.get(h).kind() : hands.get(h).part;
    }

    int tells(int h, int weight, int than) {
        if (noHand(h)) {
            return -1;
        }
        return not(weight, 1, 9999) || not(than, 1, 9999) ? -2 : hands.get(h).told(weight, than) ? 1 : 0;
    }

    int alike(int h, int x) {
        if (noHand(h) || noThing(x)) {
            return -1;
        }
        int set = 0;
        for (int y = 0; y < weights.size(); y++) {
            set += alikeThings(h, x, y) ? 1 << y : 0;
        }
        return set;
    }

    int finer(int h, int than) {
        if (noHand(h) || noHand(than)) {
            return -1;
        }
        int more = 0;
        for (int x = 0; x < weights.size(); x++) {
            for (int y = 0; y < weights.size(); y++) {
                if (toldThings(than, x, y) && !toldThings(h, x, y)) {
                    return 0;
                }
                more += !toldThings(than, x, y) && toldThings(h, x, y) ? 1 : 0;
            }
        }
        return more > 0 ? 1 : 0;
    }

    /** All rows of FAIR SWAPS without a THING twice, the shortest and of those the first kept. */
    private void ways(int h, List<Integer> row, int to, List<List<Integer>> best) {
        int at = row.get(row.size() - 1);
        if (at == to) {
            if (best.isEmpty() || best.get(0).size() > row.size()) {
                best.clear();
                best.add(new ArrayList<>(row));
            }
            return;
        }
        for (int y = 0; y < weights.size(); y++) {
            if (!row.contains(y) && alikeThings(h, at, y)) {
                row.add(y);
                ways(h, row, to, best);
                row.remove(row.size() - 1);
            }
        }
    }

    int way(int h, int from, int to, int q) {
        if (noHand(h) || noThing(from) || noThing(to) || q < -1) {
            return -1;
        }
        List<List<Integer>> best = new ArrayList<>();
        ways(h, new ArrayList<>(List.of(from)), to, best);
        if (best.isEmpty()) {
            return -9;
        }
        List<Integer> row = best.get(0);
        return q == -1 ? row.size() - 1 : q < row.size() ? row.get(q) : -9;
    }

    int noon(int h, int x, int k) {
        if (noHand(h) || noThing(x)) {
            return -1;
        }
        if (not(k, 0, 99)) {
            return -2;
        }
        int set = 0;
        for (int y = 0; y < weights.size(); y++) {
            int swaps = way(h, x, y, -1);
            set += swaps != -9 && swaps <= k ? 1 << y : 0;
        }
        return set;
    }

    private void gains(int theirs, int own, int at, int done, int most, int[] best) {
        if (weights.get(at) > best[0] || weights.get(at) == best[0] && done < best[1]) {
            best[0] = weights.get(at);
            best[1] = done;
        }
        for (int y = 0; y < weights.size() && done < most; y++) {
            if (alikeThings(theirs, at, y) && toldThings(own, y, at)) {
                gains(theirs, own, y, done + 1, most, best);
            }
        }
    }

    int gain(int theirs, int own, int x, int k, int what) {
        if (noHand(theirs) || noHand(own) || noThing(x)) {
            return -1;
        }
        if (not(k, 0, 8) || not(what, 0, 1)) {
            return -2;
        }
        int[] best = {0, 0};
        gains(theirs, own, x, 0, k, best);
        return best[what];
    }

    int saying(int h, int x, int y, int said) {
        if (noHand(h) || noThing(x) || noThing(y) || x == y) {
            return -1;
        }
        if (not(said, 0, 1)) {
            return -2;
        }
        if (sayings.size() == 10) {
            return -4;
        }
        sayings.add(new Saying(hands.get(h), x, y, said));
        return sayings.size() - 1;
    }

    int back(int k) {
        if (not(k, 0, sayings.size())) {
            return -2;
        }
        for (int times = 0; times < k; times++) {
            sayings.remove(sayings.size() - 1);
        }
        return sayings.size();
    }

    private boolean so(Saying s) {
        int one = weights.get(s.x);
        int other = weights.get(s.y);
        return s.said == 1 ? s.hand.told(one, other) : alikeBy(s.hand, one, other);
    }

    int untrue() {
        int set = 0;
        for (int s = 0; s < sayings.size(); s++) {
            set += so(sayings.get(s)) ? 0 : 1 << s;
        }
        return set;
    }

    /** How many SAYINGS that name x are false by each of its WEIGHTS, which is tried and set back. */
    private int[] falseOnes(int x) {
        int was = weights.get(x);
        int[] many = new int[1000];
        for (int v = 1; v < 1000; v++) {
            weights.set(x, v);
            for (Saying s : sayings) {
                many[v] += (s.x == x || s.y == x) && !so(s) ? 1 : 0;
            }
        }
        weights.set(x, was);
        return many;
    }

    int leaves(int x, int what) {
        if (noThing(x)) {
            return -1;
        }
        if (not(what, 0, 2)) {
            return -2;
        }
        int[] many = falseOnes(x);
        List<Integer> left = new ArrayList<>();
        for (int v = 1; v < 1000; v++) {
            if (many[v] == 0) {
                left.add(v);
            }
        }
        if (what == 0) {
            return left.size();
        }
        return left.isEmpty() ? -9 : left.get(what == 1 ? 0 : left.size() - 1);
    }

    int breaks(int x, int what) {
        if (noThing(x)) {
            return -1;
        }
        if (not(what, 0, 1)) {
            return -2;
        }
        int[] many = falseOnes(x);
        for (int fewest = 0; fewest <= 10; fewest++) {
            for (int v = 1; v < 1000; v++) {
                if (many[v] == fewest) {
                    return what == 0 ? fewest : v;
                }
            }
        }
        throw new IllegalStateException("more false than there are");
    }

    /** All orders of numbers, from the first one on. */
    private static void orders(List<Integer> begun, List<Integer> left, List<List<Integer>> all) {
        if (left.isEmpty()) {
            all.add(new ArrayList<>(begun));
        }
        for (int i = 0; i < left.size(); i++) {
            List<Integer> rest = new ArrayList<>(left);
            begun.add(rest.remove(i));
            orders(begun, rest, all);
            begun.remove(begun.size() - 1);
        }
    }

    private boolean laid(int h, List<Integer> order) {
        for (int i = 0; i < order.size(); i++) {
            for (int j = 0; j < i; j++) {
                if (toldThings(h, order.get(j), order.get(i))) {
                    return false;
                }
            }
        }
        return true;
    }

    int rows(int h, int q) {
        if (noHand(h) || not(q, -1, weights.size() - 1)) {
            return -1;
        }
        List<Integer> numbers = new ArrayList<>();
        for (int x = 0; x < weights.size(); x++) {
            numbers.add(x);
        }
        List<List<Integer>> all = new ArrayList<>();
        orders(new ArrayList<>(), numbers, all);
        all.removeIf(order -> !laid(h, order));
        return q == -1 ? all.size() : all.get(0).get(q);
    }

    private int chain(int h, int x) {
        int most = 1;
        for (int y = 0; y < weights.size(); y++) {
            most = toldThings(h, y, x) ? Math.max(most, 1 + chain(h, y)) : most;
        }
        return most;
    }

    int longest(int h) {
        if (noHand(h)) {
            return -1;
        }
        int most = 0;
        for (int x = 0; x < weights.size(); x++) {
            most = Math.max(most, chain(h, x));
        }
        return most;
    }

    int crowd(int h) {
        if (noHand(h)) {
            return -1;
        }
        for (int most = weights.size(); most > 0; most--) {
            for (int set = 1; set < 1 << weights.size(); set++) {
                boolean all = Integer.bitCount(set) == most;
                for (int x = 0; x < weights.size() && all; x++) {
                    for (int y = 0; y < weights.size(); y++) {
                        all = all && ((set >> x & 1) == 0 || (set >> y & 1) == 0 || alikeThings(h, x, y));
                    }
                }
                if (all) {
                    return set;
                }
            }
        }
        throw new IllegalStateException("not even one");
    }

    int measure(int h, int what) {
        if (noHand(h)) {
            return -1;
        }
        if (not(what, 0, 1)) {
            return -2;
        }
        for (int most = weights.size() - 1; most >= 0; most--) {
            for (int x = 0; x < weights.size(); x++) {
                if (Integer.bitCount(alike(h, x)) - 1 == most) {
                    return what == 0 ? x : most;
                }
            }
        }
        throw new IllegalStateException("none is the measure");
    }

    private int greatest(List<Integer> row, int weight) {
        int copy = weight;
        for (int h : row) {
            int next = copy;
            while (!hands.get(h).told(next + 1, copy)) {
                next++;
            }
            copy = next;
        }
        return copy;
    }

    private int least(List<Integer> row, int weight) {
        int copy = weight;
        for (int h : row) {
            int next = copy;
            while (next > 1 && !hands.get(h).told(copy, next - 1)) {
                next--;
            }
            copy = next;
        }
        return copy;
    }

    /** HANDS of a row; null, with refusal set, if there is none such. */
    private List<Integer> handRow(int k, int sort, int i, int n) {
        int[] cells = n > 40 ? cells(k, sort, i, 41) : cells(k, sort, i, n);
        if (cells == null) {
            refusal = -10 - fault;
            return null;
        }
        List<Integer> row = new ArrayList<>();
        boolean unknown = false;
        for (int cell : cells) {
            unknown = unknown || noHand(cell);
            row.add(cell);
        }
        refusal = not(n, 1, 5) ? -2 : -1;
        return not(n, 1, 5) || unknown ? null : row;
    }

    private int refusal;

    int copies(int weight, int k, int sort, int i, int n, int what) {
        fault = 0;
        if (not(k, 0, 3)) {
            return -1;
        }
        if (not(sort, 0, 2) || not(weight, 1, 999) || not(what, 0, 1)) {
            return -2;
        }
        List<Integer> row = handRow(k, sort, i, n);
        return row == null ? refusal : what == 0 ? greatest(row, weight) : least(row, weight);
    }

    int bestRow(int weight, int k, int sort, int i, int n, int q) {
        fault = 0;
        if (not(k, 0, 3)) {
            return -1;
        }
        if (not(sort, 0, 2) || not(weight, 1, 999)) {
            return -2;
        }
        List<Integer> row = handRow(k, sort, i, n);
        if (row == null) {
            return refusal;
        }
        if (not(q, -1, n - 1)) {
            return -1;
        }
        row.sort(null);
        List<List<Integer>> all = new ArrayList<>();
        orders(new ArrayList<>(), row, all);
        List<Integer> best = all.get(0);
        for (List<Integer> order : all) {
            if (greatest(order, weight) - least(order, weight) < greatest(best, weight) - least(best, weight)) {
                best = order;
            }
        }
        return q == -1 ? greatest(best, weight) - least(best, weight) : best.get(q);
    }

    private int together(int set) {
        int sum = 0;
        for (int x = 0; x < weights.size(); x++) {
            sum += (set >> x & 1) * weights.get(x);
        }
        return sum;
    }

    int even(int h, int what) {
        if (noHand(h)) {
            return -1;
        }
        if (not(what, 0, 1)) {
            return -2;
        }
        for (int most = weights.size(); most > 1; most--) {
            for (int a = 1; a < 1 << weights.size(); a++) {
                for (int b = a + 1; b < 1 << weights.size(); b++) {
                    if ((a & b) == 0 && Integer.bitCount(a) + Integer.bitCount(b) == most
                            && alikeBy(hands.get(h), together(a), together(b))) {
                        return what == 0 ? a : b;
                    }
                }
            }
        }
        return -9;
    }

    long odds(int h, int which) {
        if (noHand(h) || not(which, 0, 1)) {
            return Long.MIN_VALUE;
        }
        int told = 0;
        int pairs = 0;
        for (int x = 0; x < weights.size(); x++) {
            for (int y = 0; y < x; y++) {
                pairs++;
                told += alikeThings(h, x, y) ? 0 : 1;
            }
        }
        long common = java.math.BigInteger.valueOf(told).gcd(java.math.BigInteger.valueOf(pairs)).longValue();
        return (which == 0 ? told : pairs) / common;
    }

    int sheet(int k, int sort, int n) {
        fault = 0;
        if (not(k, 0, 3)) {
            return -1;
        }
        if (not(sort, 0, 2) || n > 40) {
            return -2;
        }
        try {
            sheets[k] = sort == 0 ? new byte[n] : sort == 1 ? new short[n] : new int[n];
            return 1;
        } catch (NegativeArraySizeException e) {
            fault = 4;
            return -14;
        }
    }

    int lose(int k) {
        if (not(k, 0, 3)) {
            return -1;
        }
        boolean had = sheets[k] != null;
        sheets[k] = null;
        return had ? 1 : 0;
    }

    int put(int k, int i, int v) {
        fault = 0;
        if (not(k, 0, 3)) {
            return -1;
        }
        try {
            if (sheets[k] instanceof byte[]) {
                ((byte[]) sheets[k])[i] = (byte) v;
            } else if (sheets[k] instanceof short[]) {
                ((short[]) sheets[k])[i] = (short) v;
            } else {
                ((int[]) sheets[k])[i] = v;
            }
            return 1;
        } catch (NullPointerException e) {
            fault = 1;
        } catch (IndexOutOfBoundsException e) {
            fault = 3;
        }
        return -10 - fault;
    }

    long cell(int k, int i, int sort) {
        fault = 0;
        if (not(k, 0, 3) || not(sort, 0, 2)) {
            return Long.MIN_VALUE;
        }
        try {
            return at(sheets[k], sort, i);
        } catch (ClassCastException e) {
            fault = 2;
        } catch (NullPointerException e) {
            fault = 1;
        } catch (IndexOutOfBoundsException e) {
            fault = 3;
        }
        return Long.MIN_VALUE;
    }

    int copy(int k, int i, int other, int j, int n) {
        fault = 0;
        if (not(k, 0, 3) || not(other, 0, 3)) {
            return -1;
        }
        try {
            System.arraycopy(sheets[k], i, sheets[other], j, n);
            return n;
        } catch (NullPointerException e) {
            fault = 1;
        } catch (ArrayStoreException e) {
            fault = 2;
        } catch (IndexOutOfBoundsException e) {
            fault = 3;
        }
        return -10 - fault;
    }

    int tell(int h) {
        return noHand(h) ? -1 : hands.get(h).telling();
    }

    int shake(int h) {
        return noHand(h) ? -1 : hands.get(h).shaking();
    }

    int as(int h, int kind) {
        fault = 0;
        if (noHand(h)) {
            return -1;
        }
        if (not(kind, 0, 2)) {
            return -2;
        }
        Class<?>[] kinds = {Hand.class, Steady.class, Smith.class};
        try {
            kinds[kind].cast(hands.get(h));
            return 1;
        } catch (ClassCastException e) {
            fault = 2;
            return -12;
        }
    }

    int trace() {
        return trace;
    }

    int fault() {
        return fault;
    }

    int many(int what) {
        return what == 0 ? weights.size() : what == 1 ? hands.size() : what == 2 ? sayings.size() : -2;
    }
}
