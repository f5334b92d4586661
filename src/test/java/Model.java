import java.util.ArrayDeque;
import java.util.ArrayList;
import java.util.Deque;
import java.util.List;
import java.util.Set;
import java.util.TreeSet;

/**
 * The document word by word, slow and with the whole Java library: what CounterBraid answers is held against it.
 * It shares no code with CounterBraid, and does each thing in another way where there is one.
 */
final class Model {
    private static final int NONE = -1, BAD_INDEX = -2, BAD_VALUE = -3, BAD_STATE = -4, FULL = -5;
    private static final int[] A = {41, 73, 97, 131}, B = {5, 17, 29, 53};
    private static final int[] E = {19, 37, 61}, F = {3, 11, 23};

    private static final class Layers {
        long[] truth = new long[16];
        long[] rest = new long[24];
        boolean[] mark = new boolean[24];
        long[] above = new long[16];

        Layers copy() {
            Layers c = new Layers();
            c.truth = truth.clone();
            c.rest = rest.clone();
            c.mark = mark.clone();
            c.above = above.clone();
            return c;
        }
    }

    private static final class World {
        int m = 12, d = 3, k = 3, n = 6, q = 2, r = 20;
        List<Integer> keys = new ArrayList<>();
        Layers[] braids = {new Layers(), new Layers()};

        World copy() {
            World c = new World();
            c.m = m;
            c.d = d;
            c.k = k;
            c.n = n;
            c.q = q;
            c.r = r;
            c.keys = new ArrayList<>(keys);
            c.braids = new Layers[] {braids[0].copy(), braids[1].copy()};
            return c;
        }

        Set<Integer> flowPlaces(int flow) {
            Set<Integer> found = new TreeSet<>();
            for (int f = 0; f < k; f++) {
                found.add(((keys.get(flow) * A[f] + B[f]) % 1009) % m);
            }
            return found;
        }

        Set<Integer> counterPlaces(int c) {
            Set<Integer> found = new TreeSet<>();
            for (int f = 0; f < q; f++) {
                found.add(((c * E[f] + F[f]) % 103) % n);
            }
            return found;
        }

        void addToCounter(Layers b, int c, long many) {
            long s = b.rest[c] + many;
            long size = (long) Math.pow(2, d);
            b.rest[c] = s % size;
            if (s / size > 0) {
                b.mark[c] = true;
                for (int p : counterPlaces(c)) {
                    b.above[p] += s / size;
                }
            }
        }

        void countFlow(int braid, int flow, long many) {
            for (int c : flowPlaces(flow)) {
                addToCounter(braids[braid], c, many);
            }
            braids[braid].truth[flow] += many;
        }

        /** The bounds [lower, upper] of each counter's overflow. */
        long[][] overflows(int braid) {
            Layers b = braids[braid];
            List<Integer> marked = new ArrayList<>();
            List<Set<Integer>> places = new ArrayList<>();
            for (int c = 0; c < m; c++) {
                if (b.mark[c]) {
                    marked.add(c);
                    places.add(counterPlaces(c));
                }
            }
            long[][] found = decode(places, b.above, b.above, 1, r, new int[1]);
            long[][] all = new long[m][2];
            for (int i = 0; i < marked.size(); i++) {
                all[marked.get(i)] = found[i];
            }
            return all;
        }

        /** The bounds of each flow after some rounds; last[0] becomes the last round that changes one. */
        long[][] flows(int braid, int rounds, int[] last) {
            long[][] over = overflows(braid);
            long[] least = new long[m];
            long[] greatest = new long[m];
            for (int c = 0; c < m; c++) {
                least[c] = braids[braid].rest[c] + (long) Math.pow(2, d) * over[c][0];
                greatest[c] = braids[braid].rest[c] + (long) Math.pow(2, d) * over[c][1];
            }
            List<Set<Integer>> places = new ArrayList<>();
            for (int f = 0; f < keys.size(); f++) {
                places.add(flowPlaces(f));
            }
            return decode(places, least, greatest, 0, rounds, last);
        }
    }

    /** All rounds are done, also those behind a round that changes nothing. */
    private static long[][] decode(List<Set<Integer>> places, long[] least, long[] greatest, long start, int rounds,
            int[] last) {
        int things = places.size();
        long[][] bounds = new long[things][2];
        for (int t = 0; t < things; t++) {
            bounds[t][0] = start;
            bounds[t][1] = places.get(t).stream().mapToLong(p -> greatest[p]).min().getAsLong();
        }
        for (int round = 1; round <= rounds; round++) {
            long[][] next = new long[things][2];
            for (int t = 0; t < things; t++) {
                next[t] = bounds[t].clone();
                for (int p : places.get(t)) {
                    long lowers = 0;
                    long uppers = 0;
                    for (int other = 0; other < things; other++) {
                        if (other != t && places.get(other).contains(p)) {
                            lowers += bounds[other][0];
                            uppers += bounds[other][1];
                        }
                    }
                    next[t][1] = Math.min(next[t][1], greatest[p] - lowers);
                    next[t][0] = Math.max(next[t][0], least[p] - uppers);
                }
                if (next[t][0] != bounds[t][0] || next[t][1] != bounds[t][1]) {
                    last[0] = round;
                }
            }
            bounds = next;
        }
        return bounds;
    }

    private World w = new World();
    private final Deque<World> history = new ArrayDeque<>();
    private final StringBuilder text = new StringBuilder();

    private void record() {
        history.addLast(w.copy());
        if (history.size() > 5) {
            history.removeFirst();
        }
    }

    private void emptyBraids() {
        w.braids = new Layers[] {new Layers(), new Layers()};
    }

    int setFirst(int counters, int bits, int functions) {
        if (counters < 2 || counters > 24 || bits < 1 || bits > 8 || functions < 1 || functions > 4) {
            return BAD_VALUE;
        }
        record();
        int previous = w.m;
        w.m = counters;
        w.d = bits;
        w.k = functions;
        emptyBraids();
        return previous;
    }

    int setSecond(int counters, int functions) {
        if (counters < 1 || counters > 16 || functions < 1 || functions > 3) {
            return BAD_VALUE;
        }
        record();
        int previous = w.n;
        w.n = counters;
        w.q = functions;
        emptyBraids();
        return previous;
    }

    int setRounds(int rounds) {
        if (rounds < 0 || rounds > 60) {
            return BAD_VALUE;
        }
        record();
        int previous = w.r;
        w.r = rounds;
        return previous;
    }

    int form(int what) {
        int[] all = {w.m, w.d, w.k, w.n, w.q, w.r, w.keys.size()};
        return what < 0 || what > 6 ? BAD_VALUE : all[what];
    }

    int addFlow(int key) {
        if (key < 0 || key > 999) {
            return BAD_VALUE;
        }
        if (w.keys.contains(key)) {
            return BAD_STATE;
        }
        if (w.keys.size() == 16) {
            return FULL;
        }
        record();
        w.keys.add(key);
        return w.keys.size() - 1;
    }

    int key(int flow) {
        return noFlow(flow) ? BAD_INDEX : w.keys.get(flow);
    }

    int flowOf(int key) {
        return key < 0 || key > 999 ? BAD_VALUE : w.keys.indexOf(key);
    }

    int places(int flow) {
        return noFlow(flow) ? BAD_INDEX : mask(w.flowPlaces(flow));
    }

    int placesAbove(int counter) {
        return noCounter(counter) ? BAD_INDEX : mask(w.counterPlaces(counter));
    }

    long count(int braid, int flow, int many) {
        if (noBraid(braid) || noFlow(flow)) {
            return BAD_INDEX;
        }
        if (many < 1 || many > 1000000) {
            return BAD_VALUE;
        }
        if (w.braids[braid].truth[flow] + many > 1000000000) {
            return FULL;
        }
        record();
        w.countFlow(braid, flow, many);
        return w.braids[braid].truth[flow];
    }

    int addBraid(int from, int to) {
        if (noBraid(from) || noBraid(to)) {
            return BAD_INDEX;
        }
        if (from == to) {
            return BAD_VALUE;
        }
        Layers b = w.braids[from];
        for (int f = 0; f < w.keys.size(); f++) {
            if (b.truth[f] + w.braids[to].truth[f] > 1000000000) {
                return FULL;
            }
        }
        record();
        Layers a = w.braids[to];
        int news = 0;
        for (int c = 0; c < w.n; c++) {
            a.above[c] += b.above[c];
        }
        for (int c = 0; c < w.m; c++) {
            boolean before = a.mark[c];
            w.addToCounter(a, c, b.rest[c]);
            if (b.mark[c]) {
                a.mark[c] = true;
            }
            if (a.mark[c] && !before) {
                news++;
            }
        }
        for (int f = 0; f < w.keys.size(); f++) {
            a.truth[f] += b.truth[f];
        }
        return news;
    }

    long clear(int braid) {
        if (noBraid(braid)) {
            return BAD_INDEX;
        }
        record();
        long sum = total(braid, 0);
        w.braids[braid] = new Layers();
        return sum;
    }

    long truth(int braid, int flow) {
        return noBraid(braid) || noFlow(flow) ? BAD_INDEX : w.braids[braid].truth[flow];
    }

    int rest(int braid, int counter) {
        return noBraid(braid) || noCounter(counter) ? BAD_INDEX : (int) w.braids[braid].rest[counter];
    }

    int isMarked(int braid, int counter) {
        if (noBraid(braid) || noCounter(counter)) {
            return BAD_INDEX;
        }
        return w.braids[braid].mark[counter] ? 1 : 0;
    }

    long above(int braid, int counter) {
        return noBraid(braid) || counter < 0 || counter >= w.n ? BAD_INDEX : w.braids[braid].above[counter];
    }

    long overflow(int braid, int counter, boolean upper) {
        return noBraid(braid) || noCounter(counter) ? BAD_INDEX : w.overflows(braid)[counter][upper ? 1 : 0];
    }

    long bound(int braid, int flow, boolean upper) {
        return boundAfter(braid, flow, upper, w.r);
    }

    long boundAfter(int braid, int flow, boolean upper, int rounds) {
        if (noBraid(braid) || noFlow(flow)) {
            return BAD_INDEX;
        }
        if (rounds < 0 || rounds > 60) {
            return BAD_VALUE;
        }
        return w.flows(braid, rounds, new int[1])[flow][upper ? 1 : 0];
    }

    int certain(int braid) {
        return noBraid(braid) ? BAD_INDEX : equalBounds(w.flows(braid, w.r, new int[1]));
    }

    int certainOverflows(int braid) {
        return noBraid(braid) ? BAD_INDEX : equalBounds(w.overflows(braid));
    }

    int lastRound(int braid) {
        if (noBraid(braid)) {
            return BAD_INDEX;
        }
        int[] last = new int[1];
        w.flows(braid, w.r, last);
        return last[0];
    }

    long total(int braid, int what) {
        if (noBraid(braid)) {
            return BAD_INDEX;
        }
        if (what < 0 || what > 3) {
            return BAD_VALUE;
        }
        long sum = 0;
        if (what == 0) {
            for (long truth : w.braids[braid].truth) {
                sum += truth;
            }
        } else if (what == 3) {
            for (long number : w.braids[braid].above) {
                sum += number;
            }
        } else {
            for (long[] bounds : w.flows(braid, w.r, new int[1])) {
                sum += bounds[what - 1];
            }
        }
        return sum;
    }

    long estimate(int braid, int flow) {
        if (noBraid(braid) || noFlow(flow)) {
            return BAD_INDEX;
        }
        return Math.floorDiv(bound(braid, flow, false) + bound(braid, flow, true), 2L);
    }

    long leastPlace(int braid, int flow) {
        if (noBraid(braid) || noFlow(flow)) {
            return BAD_INDEX;
        }
        long[][] over = w.overflows(braid);
        long least = Long.MAX_VALUE;
        for (int c : w.flowPlaces(flow)) {
            least = Math.min(least, w.braids[braid].rest[c] + (1L << w.d) * over[c][1]);
        }
        return least;
    }

    int widest(int braid) {
        if (noBraid(braid)) {
            return BAD_INDEX;
        }
        int widest = NONE;
        long width = 0;
        for (int f = 0; f < w.keys.size(); f++) {
            long apart = bound(braid, f, true) - bound(braid, f, false);
            if (apart > width) {
                width = apart;
                widest = f;
            }
        }
        return widest;
    }

    int leastSpace(int braid) {
        if (noBraid(braid)) {
            return BAD_INDEX;
        }
        for (int m = 2; m <= 24; m++) {
            World trial = w.copy();
            trial.m = m;
            trial.braids[1] = new Layers();
            for (int f = 0; f < w.keys.size(); f++) {
                if (w.braids[braid].truth[f] > 0) {
                    trial.countFlow(1, f, w.braids[braid].truth[f]);
                }
            }
            if (equalBounds(trial.flows(1, trial.r, new int[1])) == (1 << w.keys.size()) - 1) {
                return m;
            }
        }
        return NONE;
    }

    int bits() {
        return w.m * (w.d + 1) + 32 * w.n;
    }

    int bitsForEach() {
        return w.keys.isEmpty() ? NONE : Float.floatToIntBits((float) bits() / (float) w.keys.size());
    }

    int undo() {
        if (history.isEmpty()) {
            return BAD_STATE;
        }
        w = history.removeLast();
        return history.size();
    }

    int type(int code) {
        if (code < 0 || code > 255) {
            return BAD_VALUE;
        }
        if (text.length() == 100) {
            return FULL;
        }
        text.append((char) code);
        return text.length();
    }

    int clearText() {
        int length = text.length();
        text.setLength(0);
        return length;
    }

    int textFault() {
        return readText(w.copy());
    }

    int load() {
        World loaded = w.copy();
        if (readText(loaded) != NONE) {
            return BAD_STATE;
        }
        for (long truth : loaded.braids[0].truth) {
            if (truth > 1000000000) {
                return FULL;
            }
        }
        record();
        w = loaded;
        return w.keys.size();
    }

    long digest() {
        List<Long> numbers = new ArrayList<>();
        for (int what = 0; what <= 6; what++) {
            numbers.add((long) form(what));
        }
        for (int f = 0; f < w.keys.size(); f++) {
            numbers.add((long) key(f));
        }
        for (int braid = 0; braid < 2; braid++) {
            for (int f = 0; f < w.keys.size(); f++) {
                numbers.add(truth(braid, f));
            }
            for (int c = 0; c < w.m; c++) {
                numbers.add((long) rest(braid, c));
                numbers.add((long) isMarked(braid, c));
            }
            for (int c = 0; c < w.n; c++) {
                numbers.add(above(braid, c));
            }
        }
        long h = 17;
        for (long v : numbers) {
            h = 31 * h + v;
        }
        return h;
    }

    /**
     * Goes byte by byte through the places of the grammar: 0 ahead of a key, 1 in it, 2 behind it, 3 ahead of a
     * number behind '+', 4 in it, 5 behind it. The items are done in the world as they end. Returns the fault.
     */
    private int readText(World world) {
        int place = 0;
        int start = 0;
        int flow = 0;
        for (int at = 0; at <= text.length(); at++) {
            boolean ends = at == text.length();
            char sign = ends ? 0 : text.charAt(at);
            boolean digit = !ends && sign >= '0' && sign <= '9';
            if (digit && (place == 0 || place == 3)) {
                start = at;
                place++;
            }
            if ((place == 1 || place == 4) && !digit) {
                String number = text.substring(start, at);
                int value = number.length() > 4 ? -1 : Integer.parseInt(number);
                if (place == 1) {
                    flow = value < 0 || value > 999 ? -1 : flowInWorld(world, value);
                    if (flow < 0) {
                        return start;
                    }
                } else if (value < 1) {
                    return start;
                } else {
                    world.countFlow(0, flow, value);
                }
                place++;
            }
            if (ends) {
                if (place == 2) {
                    world.countFlow(0, flow, 1);
                }
                return place == 2 || place == 5 ? NONE : at;
            }
            if (sign == '+' && place == 2) {
                place = 3;
            } else if (sign == ';' && (place == 2 || place == 5)) {
                if (place == 2) {
                    world.countFlow(0, flow, 1);
                }
                place = 0;
            } else if (sign != ' ' && !(digit && (place == 1 || place == 4))) {
                return at;
            }
        }
        throw new IllegalStateException("the text's end was passed");
    }

    private static int flowInWorld(World world, int key) {
        if (!world.keys.contains(key) && world.keys.size() < 16) {
            world.keys.add(key);
        }
        return world.keys.indexOf(key);
    }

    private static boolean noBraid(int braid) {
        return braid != 0 && braid != 1;
    }

    private boolean noFlow(int flow) {
        return flow < 0 || flow >= w.keys.size();
    }

    private boolean noCounter(int counter) {
        return counter < 0 || counter >= w.m;
    }

    private static int mask(Set<Integer> places) {
        return places.stream().mapToInt(p -> 1 << p).sum();
    }

    private static int equalBounds(long[][] bounds) {
        int mask = 0;
        for (int t = 0; t < bounds.length; t++) {
            mask += bounds[t][0] == bounds[t][1] ? 1 << t : 0;
        }
        return mask;
    }
}
