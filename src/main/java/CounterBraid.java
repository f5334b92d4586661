import java.util.Arrays;

/**
 * Counters in two layers that many flows share, and the bounds by which the counts of the flows
 * are found again. README.md tells how to use it.
 */
public final class CounterBraid {
    public static final int NONE = -1, BAD_INDEX = -2, BAD_VALUE = -3, BAD_STATE = -4, FULL = -5;

    private static final int BRAIDS = 2;
    private static final int MAX_FLOWS = 16;
    private static final int MAX_KEY = 999;
    private static final int MIN_COUNTERS = 2;
    private static final int MAX_COUNTERS = 24;
    private static final int MAX_BITS = 8;
    private static final int MAX_COUNTERS_ABOVE = 16;
    private static final int MAX_ROUNDS = 60;
    private static final int MAX_MANY = 1000000;
    private static final long MAX_TRUTH = 1000000000L;
    private static final int FORM_NUMBERS = 7;
    private static final int TOTALS = 4;
    private static final int MAX_HISTORY = 5;

    private static final int[] FLOW_FACTORS = {41, 73, 97, 131};
    private static final int[] FLOW_OFFSETS = {5, 17, 29, 53};
    private static final int FLOW_MODULUS = 1009;
    private static final int[] COUNTER_FACTORS = {19, 37, 61};
    private static final int[] COUNTER_OFFSETS = {3, 11, 23};
    private static final int COUNTER_MODULUS = 103;
    private static final int MAX_FUNCTIONS = 4;
    private static final int MAX_FUNCTIONS_ABOVE = 3;

    private static final int MAX_TEXT = 100;
    private static final int MAX_BYTE = 255;
    // Two items are parted by a ';' and each has a digit at least, so 100 bytes hold 50 of them.
    private static final int MAX_ITEMS = MAX_TEXT / 2;
    private static final int MAX_DIGITS = 4;

    private static final int FLOAT_BIAS = 127;
    private static final int FLOAT_FRACTION_BITS = 23;

    private final State now = new State();
    private final History history = new History();
    private final Text text = new Text();
    private final Decoder decoder = new Decoder();
    private final State trial = new State();

    public CounterBraid() {
    }

    // ---- form and flows

    public int setFirst(int counters, int bits, int functions) {
        if (!isFrom(MIN_COUNTERS, counters, MAX_COUNTERS) || !isFrom(1, bits, MAX_BITS)
                || !isFrom(1, functions, MAX_FUNCTIONS)) {
            return BAD_VALUE;
        }
        history.push(now);
        int previous = now.form.counters;
        now.form.counters = counters;
        now.form.bits = bits;
        now.form.functions = functions;
        now.empty();
        return previous;
    }

    public int setSecond(int counters, int functions) {
        if (!isFrom(1, counters, MAX_COUNTERS_ABOVE) || !isFrom(1, functions, MAX_FUNCTIONS_ABOVE)) {
            return BAD_VALUE;
        }
        history.push(now);
        int previous = now.form.countersAbove;
        now.form.countersAbove = counters;
        now.form.functionsAbove = functions;
        now.empty();
        return previous;
    }

    public int setRounds(int rounds) {
        if (!isFrom(0, rounds, MAX_ROUNDS)) {
            return BAD_VALUE;
        }
        history.push(now);
        int previous = now.form.rounds;
        now.form.rounds = rounds;
        return previous;
    }

    public int form(int what) {
        return isFrom(0, what, FORM_NUMBERS - 1) ? now.formNumber(what) : BAD_VALUE;
    }

    public int addFlow(int key) {
        if (!isFrom(0, key, MAX_KEY)) {
            return BAD_VALUE;
        }
        if (now.find(key) != NONE) {
            return BAD_STATE;
        }
        if (now.flows >= MAX_FLOWS) {
            return FULL;
        }
        history.push(now);
        return now.findOrAppend(key);
    }

    public int key(int flow) {
        return isFlow(flow) ? now.keys[flow] : BAD_INDEX;
    }

    public int flowOf(int key) {
        return isFrom(0, key, MAX_KEY) ? now.find(key) : BAD_VALUE;
    }

    public int places(int flow) {
        return isFlow(flow) ? now.form.placesOfKey(now.keys[flow]) : BAD_INDEX;
    }

    public int placesAbove(int counter) {
        return isCounter(counter) ? now.form.placesOfCounter(counter) : BAD_INDEX;
    }

    // ---- counting

    public long count(int braid, int flow, int many) {
        if (!isBraid(braid) || !isFlow(flow)) {
            return BAD_INDEX;
        }
        if (!isFrom(1, many, MAX_MANY)) {
            return BAD_VALUE;
        }
        Braid counting = now.braid(braid);
        if (counting.truths[flow] + many > MAX_TRUTH) {
            return FULL;
        }
        history.push(now);
        now.countFlow(counting, flow, many);
        return counting.truths[flow];
    }

    public int addBraid(int from, int to) {
        if (!isBraid(from) || !isBraid(to)) {
            return BAD_INDEX;
        }
        if (from == to) {
            return BAD_VALUE;
        }
        if (!now.braid(to).hasRoomFor(now.braid(from))) {
            return FULL;
        }
        history.push(now);
        return now.braid(to).join(now.form, now.braid(from));
    }

    public long clear(int braid) {
        if (!isBraid(braid)) {
            return BAD_INDEX;
        }
        history.push(now);
        long sum = now.braid(braid).sumOfTruths();
        now.braid(braid).empty();
        return sum;
    }

    public long truth(int braid, int flow) {
        return isBraid(braid) && isFlow(flow) ? now.braid(braid).truths[flow] : BAD_INDEX;
    }

    public int rest(int braid, int counter) {
        return isBraid(braid) && isCounter(counter) ? now.braid(braid).rests[counter] : BAD_INDEX;
    }

    public int isMarked(int braid, int counter) {
        return isBraid(braid) && isCounter(counter) ? now.braid(braid).marks[counter] : BAD_INDEX;
    }

    public long above(int braid, int counter) {
        if (!isBraid(braid) || !isFrom(0, counter, now.form.countersAbove - 1)) {
            return BAD_INDEX;
        }
        return now.braid(braid).numbers[counter];
    }

    // ---- decoding

    public long overflow(int braid, int counter, boolean upper) {
        if (!isBraid(braid) || !isCounter(counter)) {
            return BAD_INDEX;
        }
        decoder.decodeOverflows(now.form, now.braid(braid));
        return decoder.overflows.boundOf(counter, upper);
    }

    public long bound(int braid, int flow, boolean upper) {
        return boundAfter(braid, flow, upper, now.form.rounds);
    }

    public long boundAfter(int braid, int flow, boolean upper, int rounds) {
        if (!isBraid(braid) || !isFlow(flow)) {
            return BAD_INDEX;
        }
        if (!isFrom(0, rounds, MAX_ROUNDS)) {
            return BAD_VALUE;
        }
        decoder.decode(now, now.braid(braid), rounds);
        return decoder.amounts.boundOf(flow, upper);
    }

    public int certain(int braid) {
        if (!isBraid(braid)) {
            return BAD_INDEX;
        }
        decoder.decode(now, now.braid(braid), now.form.rounds);
        return decoder.amounts.certainThings();
    }

    public int certainOverflows(int braid) {
        if (!isBraid(braid)) {
            return BAD_INDEX;
        }
        decoder.decodeOverflows(now.form, now.braid(braid));
        return decoder.overflows.certainThings();
    }

    public int lastRound(int braid) {
        return isBraid(braid) ? decoder.decode(now, now.braid(braid), now.form.rounds) : BAD_INDEX;
    }

    public long total(int braid, int what) {
        if (!isBraid(braid)) {
            return BAD_INDEX;
        }
        if (!isFrom(0, what, TOTALS - 1)) {
            return BAD_VALUE;
        }
        if (what == 0) {
            return now.braid(braid).sumOfTruths();
        }
        if (what == 3) {
            return now.braid(braid).sumOfNumbers();
        }
        decoder.decode(now, now.braid(braid), now.form.rounds);
        return decoder.amounts.sumOfBounds(what == 2);
    }

    public long estimate(int braid, int flow) {
        if (!isBraid(braid) || !isFlow(flow)) {
            return BAD_INDEX;
        }
        decoder.decode(now, now.braid(braid), now.form.rounds);
        return (decoder.amounts.boundOf(flow, false) + decoder.amounts.boundOf(flow, true)) / 2;
    }

    public long leastPlace(int braid, int flow) {
        return boundAfter(braid, flow, true, 0);
    }

    public int widest(int braid) {
        if (!isBraid(braid)) {
            return BAD_INDEX;
        }
        decoder.decode(now, now.braid(braid), now.form.rounds);
        return decoder.amounts.widestThing();
    }

    public int leastSpace(int braid) {
        if (!isBraid(braid)) {
            return BAD_INDEX;
        }
        trial.copyFrom(now);
        for (int counters = MIN_COUNTERS; counters <= MAX_COUNTERS; counters++) {
            trial.form.counters = counters;
            if (isTrialCertain(now.braid(braid))) {
                return counters;
            }
        }
        return NONE;
    }

    public int bits() {
        return now.form.counters * (now.form.bits + 1) + 32 * now.form.countersAbove;
    }

    public int bitsForEach() {
        int flows = now.flows;
        return flows > 0 ? bitsOfFloat((float) bits() / (float) flows) : NONE;
    }

    public int undo() {
        return history.pop(now);
    }

    // ---- text

    public int type(int code) {
        if (!isFrom(0, code, MAX_BYTE)) {
            return BAD_VALUE;
        }
        return text.append(code);
    }

    public int clearText() {
        int length = text.length;
        text.length = 0;
        return length;
    }

    public int textFault() {
        return text.read(now);
    }

    public int load() {
        if (text.read(now) != NONE) {
            return BAD_STATE;
        }
        if (!text.fits(now)) {
            return FULL;
        }
        history.push(now);
        for (int item = 0; item < text.items; item++) {
            now.countFlow(now.braid(0), now.findOrAppend(text.itemKeys[item]), text.itemCounts[item]);
        }
        return now.flows;
    }

    public long digest() {
        long hash = 17;
        for (int what = 0; what < FORM_NUMBERS; what++) {
            hash = 31 * hash + now.formNumber(what);
        }
        for (int flow = 0; flow < now.flows; flow++) {
            hash = 31 * hash + now.keys[flow];
        }
        for (int braid = 0; braid < BRAIDS; braid++) {
            hash = hashOfBraid(hash, now.braid(braid));
        }
        return hash;
    }

    // ---- what the methods share

    private static boolean isFrom(int least, int value, int greatest) {
        return least <= value && value <= greatest;
    }

    private static boolean isBraid(int braid) {
        return isFrom(0, braid, BRAIDS - 1);
    }

    private boolean isFlow(int flow) {
        return isFrom(0, flow, now.flows - 1);
    }

    private boolean isCounter(int counter) {
        return isFrom(0, counter, now.form.counters - 1);
    }

    /** Tells whether all flows are certain once they have counted by their true counts in the trial's form. */
    private boolean isTrialCertain(Braid truths) {
        Braid counting = trial.braid(0);
        counting.empty();
        for (int flow = 0; flow < trial.flows; flow++) {
            trial.countFlow(counting, flow, truths.truths[flow]);
        }
        decoder.decode(trial, counting, trial.form.rounds);
        return decoder.amounts.widestThing() == NONE;
    }

    private long hashOfBraid(long start, Braid braid) {
        long hash = start;
        for (int flow = 0; flow < now.flows; flow++) {
            hash = 31 * hash + braid.truths[flow];
        }
        for (int counter = 0; counter < now.form.counters; counter++) {
            hash = 31 * hash + braid.rests[counter];
            hash = 31 * hash + braid.marks[counter];
        }
        for (int counter = 0; counter < now.form.countersAbove; counter++) {
            hash = 31 * hash + braid.numbers[counter];
        }
        return hash;
    }

    /** The bits of a number from 1 on; LANGUAGE.md leaves out Float. Each step below is exact. */
    private static int bitsOfFloat(float number) {
        float fraction = number;
        int exponent = FLOAT_BIAS;
        while (fraction >= 2f && exponent < 2 * FLOAT_BIAS) {
            fraction = fraction / 2f;
            exponent++;
        }
        int unit = 1 << FLOAT_FRACTION_BITS;
        return (exponent << FLOAT_FRACTION_BITS) + (int) ((fraction - 1f) * (float) unit);
    }

    private static boolean isIn(int mask, int place) {
        return (mask >> place & 1) == 1;
    }

    /** The form that both braids have. */
    private static final class Form {
        int counters = 12;
        int bits = 3;
        int functions = 3;
        int countersAbove = 6;
        int functionsAbove = 2;
        int rounds = 20;

        void copyFrom(Form other) {
            counters = other.counters;
            bits = other.bits;
            functions = other.functions;
            countersAbove = other.countersAbove;
            functionsAbove = other.functionsAbove;
            rounds = other.rounds;
        }

        int placesOfKey(int key) {
            int mask = 0;
            for (int f = 0; f < functions && f < MAX_FUNCTIONS; f++) {
                int value = key * FLOW_FACTORS[f] + FLOW_OFFSETS[f];
                mask |= 1 << remainder(value % FLOW_MODULUS, counters);
            }
            return mask;
        }

        int placesOfCounter(int counter) {
            int mask = 0;
            for (int f = 0; f < functionsAbove && f < MAX_FUNCTIONS_ABOVE; f++) {
                int value = counter * COUNTER_FACTORS[f] + COUNTER_OFFSETS[f];
                mask |= 1 << remainder(value % COUNTER_MODULUS, countersAbove);
            }
            return mask;
        }

        private static int remainder(int value, int divisor) {
            return divisor > 0 ? value % divisor : 0;
        }
    }

    /** The counters of one braid, and the true counts of its flows. */
    private static final class Braid {
        final long[] truths = new long[MAX_FLOWS];
        final int[] rests = new int[MAX_COUNTERS];
        final int[] marks = new int[MAX_COUNTERS];
        final long[] numbers = new long[MAX_COUNTERS_ABOVE];

        void copyFrom(Braid other) {
            System.arraycopy(other.truths, 0, truths, 0, MAX_FLOWS);
            System.arraycopy(other.rests, 0, rests, 0, MAX_COUNTERS);
            System.arraycopy(other.marks, 0, marks, 0, MAX_COUNTERS);
            System.arraycopy(other.numbers, 0, numbers, 0, MAX_COUNTERS_ABOVE);
        }

        void empty() {
            Arrays.fill(truths, 0L);
            Arrays.fill(rests, 0);
            Arrays.fill(marks, 0);
            Arrays.fill(numbers, 0L);
        }

        /** Adds to the rest of a counter; what flows over goes to the second layer. */
        void raise(Form form, int counter, long many) {
            long sum = rests[counter] + many;
            long over = sum >> form.bits;
            rests[counter] = (int) (sum - (over << form.bits));
            if (over > 0) {
                marks[counter] = 1;
                raiseNumbers(form.placesOfCounter(counter), over);
            }
        }

        private void raiseNumbers(int mask, long many) {
            for (int place = 0; place < MAX_COUNTERS_ABOVE; place++) {
                if (isIn(mask, place)) {
                    numbers[place] += many;
                }
            }
        }

        boolean hasRoomFor(Braid other) {
            for (int flow = 0; flow < MAX_FLOWS; flow++) {
                if (truths[flow] + other.truths[flow] > MAX_TRUTH) {
                    return false;
                }
            }
            return true;
        }

        /** Adds another braid, and returns how many marks are new. Counters and flows that are not there hold 0. */
        int join(Form form, Braid other) {
            int newMarks = 0;
            for (int place = 0; place < MAX_COUNTERS_ABOVE; place++) {
                numbers[place] += other.numbers[place];
            }
            for (int counter = 0; counter < MAX_COUNTERS; counter++) {
                int before = marks[counter];
                raise(form, counter, other.rests[counter]);
                marks[counter] = Math.max(marks[counter], other.marks[counter]);
                newMarks += marks[counter] - before;
            }
            for (int flow = 0; flow < MAX_FLOWS; flow++) {
                truths[flow] += other.truths[flow];
            }
            return newMarks;
        }

        long sumOfTruths() {
            long sum = 0;
            for (int flow = 0; flow < MAX_FLOWS; flow++) {
                sum += truths[flow];
            }
            return sum;
        }

        long sumOfNumbers() {
            long sum = 0;
            for (int place = 0; place < MAX_COUNTERS_ABOVE; place++) {
                sum += numbers[place];
            }
            return sum;
        }
    }

    /** All that a call may change and undo brings back. */
    private static final class State {
        final Form form = new Form();
        int flows;
        final int[] keys = new int[MAX_FLOWS];
        private final Braid first = new Braid();
        private final Braid second = new Braid();

        void copyFrom(State other) {
            form.copyFrom(other.form);
            flows = other.flows;
            System.arraycopy(other.keys, 0, keys, 0, MAX_FLOWS);
            first.copyFrom(other.first);
            second.copyFrom(other.second);
        }

        Braid braid(int number) {
            return number == 0 ? first : second;
        }

        void empty() {
            first.empty();
            second.empty();
        }

        int formNumber(int what) {
            switch (what) {
                case 0: return form.counters;
                case 1: return form.bits;
                case 2: return form.functions;
                case 3: return form.countersAbove;
                case 4: return form.functionsAbove;
                case 5: return form.rounds;
                default: return flows;
            }
        }

        int find(int key) {
            for (int flow = 0; flow < flows; flow++) {
                if (keys[flow] == key) {
                    return flow;
                }
            }
            return NONE;
        }

        /** The flow with a key, added if there is none; NONE only where there is no room, which callers rule out. */
        int findOrAppend(int key) {
            int found = find(key);
            if (found == NONE && flows < MAX_FLOWS) {
                found = flows;
                keys[found] = key;
                flows++;
            }
            return found;
        }

        void countFlow(Braid braid, int flow, long many) {
            if (!isFrom(0, flow, flows - 1)) {
                return;
            }
            braid.truths[flow] += many;
            int mask = form.placesOfKey(keys[flow]);
            for (int counter = 0; counter < MAX_COUNTERS; counter++) {
                if (isIn(mask, counter)) {
                    braid.raise(form, counter, many);
                }
            }
        }
    }

    /** The latest states, the oldest one first. */
    private static final class History {
        private final State[] states = new State[MAX_HISTORY];
        private int kept;

        History() {
            for (int i = 0; i < MAX_HISTORY; i++) {
                states[i] = new State();
            }
        }

        void push(State state) {
            if (kept >= MAX_HISTORY) {
                dropOldest();
            }
            states[kept].copyFrom(state);
            kept++;
        }

        private void dropOldest() {
            State oldest = states[0];
            for (int i = 1; i < MAX_HISTORY; i++) {
                states[i - 1] = states[i];
            }
            // Its row is used again for the next state, so that no call makes an object.
            states[MAX_HISTORY - 1] = oldest;
            kept = MAX_HISTORY - 1;
        }

        int pop(State state) {
            if (kept < 1) {
                return BAD_STATE;
            }
            kept--;
            state.copyFrom(states[kept]);
            return kept;
        }
    }

    /** Things with places, sums at the places, and bounds of the things that narrow round by round. */
    private static final class Bounds {
        final long[] least = new long[MAX_COUNTERS];
        final long[] greatest = new long[MAX_COUNTERS];
        private final long[] lowerSums = new long[MAX_COUNTERS];
        private final long[] upperSums = new long[MAX_COUNTERS];
        private final long[] lower = new long[MAX_COUNTERS];
        private final long[] upper = new long[MAX_COUNTERS];
        private final int[][] places = new int[MAX_COUNTERS][MAX_FUNCTIONS];
        private final int[] placeCounts = new int[MAX_COUNTERS];
        private int things;

        void start() {
            things = 0;
        }

        /** Adds a thing; one without places has the upper bound 0. */
        void append(int mask, long start) {
            if (things >= MAX_COUNTERS) {
                return;
            }
            int found = 0;
            long smallest = 0;
            for (int place = 0; place < MAX_COUNTERS && found < MAX_FUNCTIONS; place++) {
                if (isIn(mask, place)) {
                    smallest = found == 0 ? greatest[place] : Math.min(smallest, greatest[place]);
                    places[things][found] = place;
                    found++;
                }
            }
            placeCounts[things] = found;
            lower[things] = start;
            upper[things] = smallest;
            things++;
        }

        /** Narrows for some rounds, and returns how many of them change a bound. */
        int narrow(int rounds) {
            for (int round = 1; round <= rounds; round++) {
                // Behind a round that changes nothing no later one does.
                if (!narrowOnce()) {
                    return round - 1;
                }
            }
            return rounds;
        }

        private boolean narrowOnce() {
            sumBounds();
            boolean changed = false;
            for (int thing = 0; thing < things; thing++) {
                if (narrowThing(thing)) {
                    changed = true;
                }
            }
            return changed;
        }

        /** The sums are taken ahead of the round, so all things see the bounds from before it. */
        private void sumBounds() {
            Arrays.fill(lowerSums, 0L);
            Arrays.fill(upperSums, 0L);
            for (int thing = 0; thing < things; thing++) {
                for (int i = 0; i < placeCounts[thing]; i++) {
                    lowerSums[places[thing][i]] += lower[thing];
                    upperSums[places[thing][i]] += upper[thing];
                }
            }
        }

        private boolean narrowThing(int thing) {
            long low = lower[thing];
            long high = upper[thing];
            for (int i = 0; i < placeCounts[thing]; i++) {
                int place = places[thing][i];
                long most = greatest[place] - (lowerSums[place] - lower[thing]);
                long fewest = least[place] - (upperSums[place] - upper[thing]);
                high = most < high ? most : high;
                low = fewest > low ? fewest : low;
            }
            boolean changed = low != lower[thing] || high != upper[thing];
            lower[thing] = low;
            upper[thing] = high;
            return changed;
        }

        long boundOf(int thing, boolean isUpper) {
            return isUpper ? upper[thing] : lower[thing];
        }

        int certainThings() {
            int mask = 0;
            for (int thing = 0; thing < things; thing++) {
                if (lower[thing] == upper[thing]) {
                    mask |= 1 << thing;
                }
            }
            return mask;
        }

        long sumOfBounds(boolean isUpper) {
            long sum = 0;
            for (int thing = 0; thing < things; thing++) {
                sum += boundOf(thing, isUpper);
            }
            return sum;
        }

        /** The first of the things whose bounds are farthest apart; NONE if no bounds are apart. */
        int widestThing() {
            int widest = NONE;
            long width = 0;
            for (int thing = 0; thing < things; thing++) {
                if (upper[thing] - lower[thing] > width) {
                    width = upper[thing] - lower[thing];
                    widest = thing;
                }
            }
            return widest;
        }
    }

    /** The two decodings; their rows are made once and used by every call. */
    private static final class Decoder {
        final Bounds overflows = new Bounds();
        final Bounds amounts = new Bounds();

        void decodeOverflows(Form form, Braid braid) {
            overflows.start();
            for (int place = 0; place < MAX_COUNTERS_ABOVE; place++) {
                overflows.least[place] = braid.numbers[place];
                overflows.greatest[place] = braid.numbers[place];
            }
            for (int counter = 0; counter < form.counters; counter++) {
                // A thing without places stands for a counter that is not marked: thing and counter keep one number.
                int mark = braid.marks[counter];
                overflows.append(mark == 1 ? form.placesOfCounter(counter) : 0, mark);
            }
            overflows.narrow(form.rounds);
        }

        /** Does both decodings, and returns how many rounds of the second one change a bound. */
        int decode(State state, Braid braid, int rounds) {
            Form form = state.form;
            decodeOverflows(form, braid);
            amounts.start();
            for (int place = 0; place < form.counters; place++) {
                amounts.least[place] = braid.rests[place] + (overflows.boundOf(place, false) << form.bits);
                amounts.greatest[place] = braid.rests[place] + (overflows.boundOf(place, true) << form.bits);
            }
            for (int flow = 0; flow < state.flows; flow++) {
                amounts.append(form.placesOfKey(state.keys[flow]), 0);
            }
            return amounts.narrow(rounds);
        }
    }

    /** The text, and the items that were read in it. */
    private static final class Text {
        private final int[] codes = new int[MAX_TEXT];
        int length;
        final int[] itemKeys = new int[MAX_ITEMS];
        final int[] itemCounts = new int[MAX_ITEMS];
        int items;
        private int newFlows;
        private int at;

        int append(int code) {
            if (length >= MAX_TEXT) {
                return FULL;
            }
            codes[length] = code;
            length++;
            return length;
        }

        /** Reads the items as far as they have no fault, and returns the fault, or NONE. */
        int read(State state) {
            at = 0;
            items = 0;
            newFlows = 0;
            int fault = readItem(state);
            for (int turn = 0; turn < MAX_TEXT && fault == NONE && at < length; turn++) {
                fault = skipSign(';') ? readItem(state) : at;
            }
            return fault;
        }

        /** Reads an item with the blanks on both sides, and returns its fault, or NONE. */
        private int readItem(State state) {
            skipBlanks();
            int start = at;
            int key = readNumber();
            if (!isFrom(0, key, MAX_KEY)) {
                return start;
            }
            if (!isKnown(key, state)) {
                if (state.flows + newFlows >= MAX_FLOWS) {
                    return start;
                }
                newFlows++;
            }
            int many = 1;
            skipBlanks();
            if (skipSign('+')) {
                skipBlanks();
                start = at;
                many = readNumber();
                if (many < 1) {
                    return start;
                }
                skipBlanks();
            }
            keep(key, many);
            return NONE;
        }

        private void skipBlanks() {
            while (at < length && codes[at] == ' ') {
                at++;
            }
        }

        private boolean skipSign(char sign) {
            if (at < length && codes[at] == sign) {
                at++;
                return true;
            }
            return false;
        }

        /** Reads all digits that follow; NONE if there are none, or too many. */
        private int readNumber() {
            int digits = 0;
            int number = 0;
            while (at < length && isFrom('0', codes[at], '9')) {
                digits++;
                if (digits <= MAX_DIGITS) {
                    number = 10 * number + codes[at] - '0';
                }
                at++;
            }
            return isFrom(1, digits, MAX_DIGITS) ? number : NONE;
        }

        private boolean isKnown(int key, State state) {
            if (state.find(key) != NONE) {
                return true;
            }
            for (int item = 0; item < items; item++) {
                if (itemKeys[item] == key) {
                    return true;
                }
            }
            return false;
        }

        private void keep(int key, int many) {
            if (items < MAX_ITEMS) {
                itemKeys[items] = key;
                itemCounts[items] = many;
                items++;
            }
        }

        /** Tells whether no true count in braid 0 would be too great behind all items. */
        boolean fits(State state) {
            for (int item = 0; item < items; item++) {
                int flow = state.find(itemKeys[item]);
                if (flow != NONE && state.braid(0).truths[flow] + sumFor(itemKeys[item]) > MAX_TRUTH) {
                    return false;
                }
            }
            return true;
        }

        private long sumFor(int key) {
            long sum = 0;
            for (int item = 0; item < items; item++) {
                sum += itemKeys[item] == key ? itemCounts[item] : 0;
            }
            return sum;
        }
    }
}
