/**
 * Cores of a chip that are tested together on a few test lines, under a limit of power and
 * with some cores tested behind others. ../shared/DOC.md tells what each call promises.
 */
public final class CoreTests {
    public static final int BAD = -1, NO = -2, FULL = -3, NONE = -4;

    private static final int MOST_LETTERS = 200;
    private static final int MOST_CORES = 6;
    private static final int MOST_CHAINS = 6;
    private static final int MOST_LINES = 8;
    private static final int MOST_RULES = 8;
    private static final int MOST_UNDONE = 8;
    private static final int MOST_KEPT = 2;
    private static final int MOST_SEEN = 6;
    private static final int MOST_SEEN_CYCLES = 9999;
    private static final int LAST_CYCLE = 99999;
    private static final int COST_OF_NOTHING = 100000;

    private static final int KINDS = 4;
    private static final int PLAIN = 0;
    private static final int SLOW = 1;
    private static final int WARM = 2;
    private static final int WARM_LEAST = 60;

    private static final int LINES_TAKEN = 0;
    private static final int POWER_DRAWN = 1;
    private static final int CORES_RUNNING = 2;

    private static final int NOT_REFUSED = 0;
    private static final int AHEAD_NOT_DONE = 1;
    private static final int BEHIND_TOO_EARLY = 2;
    private static final int TOO_MANY_LINES = 3;
    private static final int TOO_MUCH_POWER = 4;

    /** Cells of a plan written into a row: kind, width, from and until of each core. */
    private static final int ROW = 4 * MOST_CORES;
    /** Above every cycle and every load that there can be. */
    private static final int NEVER = 1000000;

    private static final String FIRST_TEXT =
        "w4;m20;c0,5,6,9433;c1,4,9,72;c2,9,4,5551;c3,8,11,8643;c0,12,5,31;b0,3;b1,4;";

    private final Text text = new Text();
    private final Reader reader = new Reader(text);
    private final Chip draft = new Chip();
    private final Chip chip = new Chip();
    private final Plan plan = new Plan(chip);
    private final Bounds bounds = new Bounds(chip);
    private final Search search = new Search(chip);
    private final int[] before = new int[ROW];
    private final Shelf history = new Shelf(MOST_UNDONE);
    private final Shelf shelf = new Shelf(MOST_KEPT);
    private final Cause cause = new Cause();
    private final Sightings sightings = new Sightings(chip);

    public CoreTests() {
        for (int i = 0; i < FIRST_TEXT.length(); i++) text.add(FIRST_TEXT.charAt(i));
        layText();
        text.clear();
    }

    // ---- chips

    public int write(int letter) {
        if (letter < 32 || letter > 126) return BAD;
        if (text.length >= MOST_LETTERS) return FULL;
        text.add(letter);
        return text.length;
    }

    public int wipe() {
        int length = text.length;
        text.clear();
        return length;
    }

    public int fault() {
        return reader.firstFault(draft);
    }

    public int lay() {
        return layText();
    }

    public int core(int c, int what) {
        if (!isCore(c)) return BAD;
        switch (what) {
            case 0: return plan.kind[c];
            case 1: return chip.patterns[c];
            case 2: return chip.draws[c];
            case 3: return chip.chains[c];
            case 4: return plan.isPut(c) ? plan.width[c] : NONE;
            case 5: return plan.isPut(c) ? plan.from[c] : NONE;
            case 6: return plan.stairs(c);
            default: return BAD;
        }
    }

    public int chain(int c, int i) {
        if (!isCore(c) || i < 0) return BAD;
        return i < chip.chains[c] ? chip.lengths[c][i] : NONE;
    }

    public int wrap(int c, int w, int what) {
        if (!isCore(c) || !isWidth(w)) return BAD;
        switch (what) {
            case 0: return chip.load[c][w];
            case 1: return chip.idealLoad(c, w);
            case 2: return plan.takes(c, w);
            default: return BAD;
        }
    }

    public int line(int c, int w, int i) {
        if (!isCore(c) || !isWidth(w) || i < 0) return BAD;
        return i < chip.chains[c] ? chip.laidOn[c][w * MOST_CHAINS + i] : NONE;
    }

    // ---- acts

    public int put(int c, int w, int t) {
        if (!isCore(c) || !isWidth(w) || !isCycle(t)) return BAD;
        if (plan.isPut(c)) return NO;
        int reason = plan.reason(c, w, t);
        if (reason != NOT_REFUSED) {
            cause.ofPut(c, reason, plan.toldBy(reason, c, w, t));
            return NO;
        }
        remember();
        plan.place(c, w, t);
        return plan.length();
    }

    public int take(int c) {
        if (!isCore(c)) return BAD;
        if (!plan.isPut(c)) return NO;
        remember();
        plan.takeOff(c);
        return plan.length();
    }

    public int fill() {
        plan.writeTo(before);
        int placed = 0;
        // A rule's first core is the lower one: the lowest core that is not put waits for none.
        for (int c = 0; c < chip.cores; c++) {
            if (plan.isPut(c)) continue;
            if (!plan.placeDoneFirst(c, NEVER)) {
                stuck(c, placed);
                return NO;
            }
            placed++;
        }
        history.push(before);
        return plan.length();
    }

    public int rename(int c, int k) {
        if (!isCore(c) || k < 0 || k >= KINDS) return BAD;
        int was = plan.kind[c];
        if (was == k || plan.isPut(c)) return NO;
        remember();
        plan.kind[c] = k;
        return was;
    }

    public int undo() {
        if (!history.popInto(plan)) return NO;
        return history.held;
    }

    public int why(int i) {
        if (i < -1) return BAD;
        if (i == -1) return cause.many;
        return cause.number(i);
    }

    // ---- plans

    public int soonest(int c, int w) {
        if (!isCore(c) || !isWidth(w)) return BAD;
        return plan.isPut(c) ? NONE : plan.firstNotRefused(c, w, NEVER);
    }

    public int runs(int t, int what) {
        if (!isCycle(t) || what < LINES_TAKEN || what > CORES_RUNNING) return BAD;
        return plan.used(what, t);
    }

    public int bound(int what) {
        switch (what) {
            case 0: return bounds.area(plan);
            case 1: return bounds.path(plan);
            case 2: return bounds.drawn(plan);
            case 3: return bounds.greatest(plan);
            default: return BAD;
        }
    }

    public int best(int k) {
        if (k < -1 || k >= chip.cores) return BAD;
        int length = search.leastLength(plan, NONE);
        if (length == NONE || k == -1) return length;
        return search.placedAt(k);
    }

    public int costs(int b) {
        if (b < 0 || b >= chip.rules) return BAD;
        int with = search.leastLength(plan, NONE);
        int without = search.leastLength(plan, b);
        if (with == NONE || without == NONE) return NONE;
        return with - without + COST_OF_NOTHING;
    }

    // ---- what was seen

    public int seen(int c, int w, int t) {
        if (!isCore(c) || !isWidth(w) || t < 1 || t > MOST_SEEN_CYCLES) return BAD;
        if (sightings.many >= MOST_SEEN) return FULL;
        sightings.add(c, w, t);
        return sightings.many;
    }

    public int forget() {
        int many = sightings.many;
        sightings.clear();
        return many;
    }

    public int kinds(int c) {
        if (!isCore(c)) return BAD;
        return sightings.kindsOf(c);
    }

    // ---- kept

    public int keep() {
        if (shelf.held >= MOST_KEPT) return FULL;
        plan.writeTo(before);
        shelf.push(before);
        return shelf.held;
    }

    public int back() {
        if (!shelf.popInto(plan)) return NO;
        history.clear();
        return shelf.held;
    }

    public int count(int what) {
        switch (what) {
            case 0: return chip.cores;
            case 1: return chip.rules;
            case 2: return chip.lines;
            case 3: return chip.power;
            case 4: return plan.manyPut();
            case 5: return plan.length();
            case 6: return sightings.many;
            case 7: return history.held;
            case 8: return shelf.held;
            case 9: return text.length;
            default: return BAD;
        }
    }

    // ---- what the calls share

    private boolean isCore(int c) {
        return c >= 0 && c < chip.cores;
    }

    private boolean isWidth(int w) {
        return w >= 1 && w <= chip.lines;
    }

    private static boolean isCycle(int t) {
        return t >= 0 && t <= LAST_CYCLE;
    }

    /** The text is read into a draft first, so that one with a fault changes nothing. */
    private int layText() {
        if (reader.firstFault(draft) != NONE || draft.cores == 0) return NO;
        reader.firstFault(chip);
        chip.layChains();
        plan.startOver(NONE);
        for (int c = 0; c < chip.cores; c++) plan.kind[c] = chip.kind[c];
        search.forgetAll();
        history.clear();
        shelf.clear();
        cause.clear();
        sightings.clear();
        return chip.cores;
    }

    private void remember() {
        plan.writeTo(before);
        history.push(before);
    }

    private void stuck(int c, int placed) {
        int t = plan.length();
        int reason = plan.reason(c, 1, t);
        cause.ofFill(placed, c, reason, plan.toldBy(reason, c, 1, t));
        plan.readFrom(before);
    }

    /** The letters written so far. */
    private static final class Text {
        private final int[] letters = new int[MOST_LETTERS];
        int length = 0;

        void add(int letter) {
            if (length >= letters.length) return;
            letters[length] = letter;
            length++;
        }

        void clear() {
            length = 0;
        }

        int letterAt(int place) {
            return place >= 0 && place < length ? letters[place] : NONE;
        }

        int figureAt(int place) {
            if (place < 0 || place >= length) return NONE;
            int letter = letters[place];
            return letter >= '0' && letter <= '9' ? letter - '0' : NONE;
        }
    }

    /** Reads the text into a chip, item by item, up to the first fault. */
    private static final class Reader {
        private final Text text;
        private int at = 0;

        Reader(Text text) {
            this.text = text;
        }

        int firstFault(Chip chip) {
            chip.clear();
            at = 0;
            for (int items = 0; items < MOST_LETTERS && at < text.length; items++) {
                int start = at;
                if (!readItem(chip)) return start;
            }
            return NONE;
        }

        private boolean readItem(Chip chip) {
            boolean first = at == 0;
            int letter = text.letterAt(at);
            at++;
            switch (letter) {
                case 'w': return first && readLines(chip);
                case 'm': return readPower(chip);
                case 'c': return readCore(chip);
                case 'b': return readRule(chip);
                default: return false;
            }
        }

        private boolean readLines(Chip chip) {
            int lines = number(1, MOST_LINES, ';');
            if (lines == NONE) return false;
            chip.lines = lines;
            return true;
        }

        private boolean readPower(Chip chip) {
            int power = number(1, 40, ';');
            if (power == NONE) return false;
            chip.power = power;
            return true;
        }

        private boolean readCore(Chip chip) {
            int c = chip.cores;
            if (c >= MOST_CORES) return false;
            int kind = number(0, KINDS - 1, ',');
            int patterns = number(1, 20, ',');
            int draws = number(1, 30, ',');
            if (kind == NONE || patterns == NONE || draws == NONE) return false;
            int chains = row(chip.lengths[c]);
            if (chains == NONE) return false;
            chip.kind[c] = kind;
            chip.patterns[c] = patterns;
            chip.draws[c] = draws;
            chip.chains[c] = chains;
            chip.cores++;
            return true;
        }

        private boolean readRule(Chip chip) {
            int b = chip.rules;
            if (b >= MOST_RULES) return false;
            int ahead = number(0, chip.cores - 1, ',');
            int behind = number(0, chip.cores - 1, ';');
            if (ahead == NONE || behind == NONE || ahead >= behind) return false;
            chip.ruleAhead[b] = ahead;
            chip.ruleBehind[b] = behind;
            chip.rules++;
            return true;
        }

        /** A number of one or two figures with the sign that must stand behind it. */
        private int number(int least, int most, char sign) {
            int value = text.figureAt(at);
            if (value == NONE) return NONE;
            at++;
            int next = text.figureAt(at);
            if (next != NONE) {
                value = 10 * value + next;
                at++;
            }
            if (text.letterAt(at) != sign) return NONE;
            at++;
            return value >= least && value <= most ? value : NONE;
        }

        /** A row of figures from 1 to 9 and the end of the item: how many there are. */
        private int row(int[] figures) {
            int many = 0;
            for (int i = 0; i < figures.length && text.figureAt(at) > 0; i++) {
                figures[i] = text.figureAt(at);
                at++;
                many++;
            }
            if (many == 0 || text.letterAt(at) != ';') return NONE;
            at++;
            return many;
        }
    }

    /** What a text tells, and how the chains of each core are laid at each width. */
    private static final class Chip {
        int lines, power, cores, rules;
        final int[] kind = new int[MOST_CORES];
        final int[] patterns = new int[MOST_CORES];
        final int[] draws = new int[MOST_CORES];
        final int[] chains = new int[MOST_CORES];
        final int[][] lengths = new int[MOST_CORES][MOST_CHAINS];
        final int[] ruleAhead = new int[MOST_RULES];
        final int[] ruleBehind = new int[MOST_RULES];
        final int[][] load = new int[MOST_CORES][MOST_LINES + 1];
        final int[][] laidOn = new int[MOST_CORES][(MOST_LINES + 1) * MOST_CHAINS];
        private final int[] loads = new int[MOST_LINES];
        private final int[] longestFirst = new int[MOST_CHAINS];

        void clear() {
            lines = 4;
            power = 20;
            cores = 0;
            rules = 0;
        }

        void layChains() {
            for (int c = 0; c < cores; c++) {
                orderChains(c);
                for (int w = 1; w <= lines; w++) layAt(c, w);
            }
        }

        private void orderChains(int c) {
            for (int i = 0; i < chains[c]; i++) {
                int place = i;
                while (place > 0 && lengths[c][longestFirst[place - 1]] < lengths[c][i]) {
                    longestFirst[place] = longestFirst[place - 1];
                    place--;
                }
                longestFirst[place] = i;
            }
        }

        private void layAt(int c, int w) {
            clearLoads();
            int most = 0;
            for (int n = 0; n < chains[c]; n++) {
                int i = longestFirst[n];
                int line = leastLoaded(w);
                loads[line] += lengths[c][i];
                laidOn[c][w * MOST_CHAINS + i] = line;
                most = Math.max(most, loads[line]);
            }
            load[c][w] = most;
        }

        private void clearLoads() {
            for (int line = 0; line < loads.length; line++) loads[line] = 0;
        }

        private int leastLoaded(int w) {
            int least = 0;
            for (int line = 1; line < w; line++) {
                if (loads[line] < loads[least]) least = line;
            }
            return least;
        }

        int idealLoad(int c, int w) {
            clearLoads();
            return leastLoad(this, c, w, 0, 0, load[c][w]);
        }

        /**
         * The least load with the chains from i on laid in any way, those ahead of i lying
         * as they do with the load most; at most known, which is reached already.
         */
        private static int leastLoad(Chip chip, int c, int w, int i, int most, int known) {
            if (most >= known) return known;
            if (i >= chip.chains[c] || i >= MOST_CHAINS) return most;
            int length = chip.lengths[c][i];
            int least = known;
            for (int line = 0; line < w; line++) {
                chip.loads[line] += length;
                int load = Math.max(most, chip.loads[line]);
                least = leastLoad(chip, c, w, i + 1, load, least);
                chip.loads[line] -= length;
                // All lines that are still empty are alike, and the lowest of them was tried.
                if (chip.loads[line] == 0) break;
            }
            return least;
        }

        /** What a core would take if it was of that kind. */
        int takes(int c, int k, int w) {
            int p = patterns[c];
            int l = load[c][w];
            int plain = p * (l + 1) + l;
            int slow = plain + p * l;
            switch (k) {
                case PLAIN: return plain;
                case SLOW: return slow;
                case WARM: return Math.max(plain, WARM_LEAST);
                default: return (slow + 1) / 2;
            }
        }
    }

    /** Of which kinds the cores are and where they are put; a width of 0: not put. */
    private static final class Plan {
        private final Chip chip;
        final int[] kind = new int[MOST_CORES];
        final int[] width = new int[MOST_CORES];
        final int[] from = new int[MOST_CORES];
        final int[] until = new int[MOST_CORES];
        /** Of each core those that are ahead of it, as bits. */
        final int[] ahead = new int[MOST_CORES];

        Plan(Chip chip) {
            this.chip = chip;
        }

        /** Nothing is put, and all rules hold but the one left out. */
        void startOver(int leftOut) {
            for (int c = 0; c < MOST_CORES; c++) {
                takeOff(c);
                ahead[c] = 0;
            }
            for (int b = 0; b < chip.rules; b++) {
                if (b != leftOut) ahead[chip.ruleBehind[b]] |= 1 << chip.ruleAhead[b];
            }
        }

        boolean isPut(int c) {
            return width[c] > 0;
        }

        void place(int c, int w, int t) {
            width[c] = w;
            from[c] = t;
            until[c] = t + takes(c, w);
        }

        void takeOff(int c) {
            width[c] = 0;
            from[c] = 0;
            until[c] = 0;
        }

        int takes(int c, int w) {
            return chip.takes(c, kind[c], w);
        }

        int leastTaken(int c) {
            int least = NEVER;
            for (int w = 1; w <= chip.lines; w++) least = Math.min(least, takes(c, w));
            return least;
        }

        int stairs(int c) {
            int bits = 0;
            int least = NEVER;
            for (int w = 1; w <= chip.lines; w++) {
                if (takes(c, w) < least) {
                    least = takes(c, w);
                    bits |= 1 << w;
                }
            }
            return bits;
        }

        int length() {
            int length = 0;
            for (int c = 0; c < chip.cores; c++) {
                if (isPut(c)) length = Math.max(length, until[c]);
            }
            return length;
        }

        int manyPut() {
            int many = 0;
            for (int c = 0; c < chip.cores; c++) {
                if (isPut(c)) many++;
            }
            return many;
        }

        /** In a cycle the lines taken, the power drawn, or the bits of the cores that run. */
        int used(int what, int t) {
            int sum = 0;
            for (int c = 0; c < chip.cores; c++) {
                if (width[c] > 0 && from[c] <= t && t < until[c]) {
                    if (what == LINES_TAKEN) sum += width[c];
                    else if (what == POWER_DRAWN) sum += chip.draws[c];
                    else sum += 1 << c;
                }
            }
            return sum;
        }

        /** The first reason by which a core that is not put is refused there. */
        int reason(int c, int w, int t) {
            int end = t + takes(c, w);
            if (notDoneAhead(c, t) != NONE) return AHEAD_NOT_DONE;
            if (begunBehind(c, end) != NONE) return BEHIND_TOO_EARLY;
            if (firstOver(LINES_TAKEN, chip.lines - w, t, end) != NONE) return TOO_MANY_LINES;
            if (firstOver(POWER_DRAWN, chip.power - chip.draws[c], t, end) != NONE) return TOO_MUCH_POWER;
            return NOT_REFUSED;
        }

        /** The core or the cycle that goes with the reason. */
        int toldBy(int reason, int c, int w, int t) {
            int end = t + takes(c, w);
            switch (reason) {
                case AHEAD_NOT_DONE: return notDoneAhead(c, t);
                case BEHIND_TOO_EARLY: return begunBehind(c, end);
                case TOO_MANY_LINES: return firstOver(LINES_TAKEN, chip.lines - w, t, end);
                case TOO_MUCH_POWER: return firstOver(POWER_DRAWN, chip.power - chip.draws[c], t, end);
                default: return NONE;
            }
        }

        /** The lowest core ahead of c that is not put or not done by t. */
        private int notDoneAhead(int c, int t) {
            for (int a = 0; a < chip.cores; a++) {
                if ((ahead[c] >> a & 1) == 1 && (width[a] == 0 || until[a] > t)) return a;
            }
            return NONE;
        }

        /** The lowest core behind c that begins ahead of end. */
        private int begunBehind(int c, int end) {
            for (int b = 0; b < chip.cores; b++) {
                if ((ahead[b] >> c & 1) == 1 && width[b] > 0 && from[b] < end) return b;
            }
            return NONE;
        }

        /** The first cycle from t on, ahead of end, in which more than that is used. */
        private int firstOver(int what, int most, int t, int end) {
            if (used(what, t) > most) return t;
            int first = NONE;
            // What is used only grows where a core begins.
            for (int c = 0; c < chip.cores; c++) {
                int s = from[c];
                boolean earlier = width[c] > 0 && s > t && s < end && (first == NONE || s < first);
                if (earlier && used(what, s) > most) first = s;
            }
            return first;
        }

        /** The first cycle from which a core that is not put is not refused and done ahead of by. */
        int firstNotRefused(int c, int w, int by) {
            int takes = takes(c, w);
            int first = NONE;
            // Where it could not run one cycle earlier, it begins at 0 or where another is done.
            for (int i = -1; i < chip.cores; i++) {
                int t = i < 0 ? 0 : until[i];
                if (t + takes >= by || first != NONE && t >= first) continue;
                if (notDoneAhead(c, t) == NONE && begunBehind(c, t + takes) == NONE
                    && firstOver(LINES_TAKEN, chip.lines - w, t, t + takes) == NONE
                    && firstOver(POWER_DRAWN, chip.power - chip.draws[c], t, t + takes) == NONE) {
                    first = t;
                }
            }
            return first;
        }

        /** Puts a core at the width at which it is done first; false: at none it is ahead of by. */
        boolean placeDoneFirst(int c, int by) {
            int bestWidth = 0;
            int bestFrom = 0;
            int bestEnd = by;
            int least = NEVER;
            for (int w = 1; w <= chip.lines; w++) {
                int takes = takes(c, w);
                // Wherever a width is free that is no step of the stairs, a lesser one is too,
                // and it is done no later.
                if (takes >= least) continue;
                least = takes;
                int t = firstNotRefused(c, w, bestEnd);
                if (t != NONE) {
                    bestWidth = w;
                    bestFrom = t;
                    bestEnd = t + takes;
                }
            }
            if (bestWidth == 0) return false;
            place(c, bestWidth, bestFrom);
            return true;
        }

        void writeTo(int[] row) {
            if (row.length < ROW) return;
            System.arraycopy(kind, 0, row, 0, MOST_CORES);
            System.arraycopy(width, 0, row, MOST_CORES, MOST_CORES);
            System.arraycopy(from, 0, row, 2 * MOST_CORES, MOST_CORES);
            System.arraycopy(until, 0, row, 3 * MOST_CORES, MOST_CORES);
        }

        void readFrom(int[] row) {
            if (row.length < ROW) return;
            System.arraycopy(row, 0, kind, 0, MOST_CORES);
            System.arraycopy(row, MOST_CORES, width, 0, MOST_CORES);
            System.arraycopy(row, 2 * MOST_CORES, from, 0, MOST_CORES);
            System.arraycopy(row, 3 * MOST_CORES, until, 0, MOST_CORES);
        }
    }

    /** What no plan can be shorter than, by the kinds and the rules of a plan. */
    private static final class Bounds {
        private final Chip chip;
        private final int[] longest = new int[MOST_CORES];

        Bounds(Chip chip) {
            this.chip = chip;
        }

        int area(Plan plan) {
            int sum = 0;
            for (int c = 0; c < chip.cores; c++) {
                int least = NEVER;
                for (int w = 1; w <= chip.lines; w++) least = Math.min(least, w * plan.takes(c, w));
                sum += least;
            }
            return upward(sum, chip.lines);
        }

        int path(Plan plan) {
            int greatest = 0;
            // Those ahead of a core are lower than it: their paths are known by then.
            for (int c = 0; c < chip.cores; c++) {
                int behind = 0;
                for (int a = 0; a < c; a++) {
                    if ((plan.ahead[c] >> a & 1) == 1) behind = Math.max(behind, longest[a]);
                }
                longest[c] = behind + plan.leastTaken(c);
                greatest = Math.max(greatest, longest[c]);
            }
            return greatest;
        }

        int drawn(Plan plan) {
            int sum = 0;
            for (int c = 0; c < chip.cores; c++) sum += plan.leastTaken(c) * chip.draws[c];
            return upward(sum, chip.power);
        }

        int greatest(Plan plan) {
            return Math.max(Math.max(area(plan), path(plan)), drawn(plan));
        }

        private static int upward(int sum, int by) {
            return by < 1 ? NONE : (sum + by - 1) / by;
        }
    }

    /**
     * The best of all orders, with all rules (slot 0) or without rule b (slot b + 1). What
     * was found is held: it stands as long as the chip and the kinds do.
     */
    private static final class Search {
        private final Chip chip;
        private final Plan trial;
        private final Bounds bounds;
        private final int[] order = new int[MOST_CORES];
        private final int[][] orders = new int[MOST_RULES + 1][MOST_CORES];
        private final int[] lengths = new int[MOST_RULES + 1];
        /** Of each slot the kinds it was searched for as one number; 0: it was not yet. */
        private final int[] searchedFor = new int[MOST_RULES + 1];
        private int slot = 0;
        private int least = NEVER;
        private int floor = 0;

        Search(Chip chip) {
            this.chip = chip;
            trial = new Plan(chip);
            bounds = new Bounds(chip);
        }

        void forgetAll() {
            for (int i = 0; i < searchedFor.length; i++) searchedFor[i] = 0;
        }

        int leastLength(Plan plan, int leftOut) {
            int kinds = 1;
            for (int c = 0; c < chip.cores; c++) {
                if (chip.draws[c] > chip.power) return NONE;
                kinds = kinds * KINDS + plan.kind[c];
                trial.kind[c] = plan.kind[c];
            }
            slot = leftOut >= 0 && leftOut < MOST_RULES ? leftOut + 1 : 0;
            if (searchedFor[slot] != kinds) {
                trial.startOver(leftOut);
                least = NEVER;
                floor = bounds.greatest(trial);
                tryAll(this, 0, 0, 0);
                lengths[slot] = least;
                searchedFor[slot] = kinds;
            }
            return lengths[slot];
        }

        /** Which core is the k-th in the best order with all rules. */
        int placedAt(int k) {
            return k >= 0 && k < MOST_CORES ? orders[0][k] : NONE;
        }

        /** Tries all orders that begin with the first depth cores of order, lowest first. */
        private static void tryAll(Search s, int depth, int placed, int length) {
            if (depth >= s.chip.cores || depth >= MOST_CORES) {
                s.least = length;
                System.arraycopy(s.order, 0, s.orders[s.slot], 0, MOST_CORES);
                return;
            }
            for (int c = 0; c < s.chip.cores; c++) {
                if ((placed >> c & 1) == 1 || (s.trial.ahead[c] & ~placed) != 0) continue;
                if (length >= s.least || s.least <= s.floor) return;
                // Put later it would be done no sooner: no order that begins so is better then.
                if (!s.trial.placeDoneFirst(c, s.least)) return;
                s.order[depth] = c;
                tryAll(s, depth + 1, placed | 1 << c, Math.max(length, s.trial.until[c]));
                s.trial.takeOff(c);
            }
        }
    }

    /** Plans as rows, the latest last. */
    private static final class Shelf {
        private final int[][] rows;
        int held = 0;

        Shelf(int room) {
            rows = new int[Math.max(room, 1)][ROW];
        }

        void clear() {
            held = 0;
        }

        /** Where there is no room left, the oldest goes. */
        void push(int[] row) {
            if (held >= rows.length) {
                int[] oldest = rows[0];
                for (int i = 1; i < rows.length; i++) rows[i - 1] = rows[i];
                rows[rows.length - 1] = oldest;
                held = rows.length - 1;
            }
            if (row.length < ROW) return;
            System.arraycopy(row, 0, rows[held], 0, ROW);
            held++;
        }

        boolean popInto(Plan plan) {
            if (held < 1) return false;
            held--;
            plan.readFrom(rows[held]);
            return true;
        }
    }

    /** Why the latest refused put or stuck fill was so. */
    private static final class Cause {
        private final int[] numbers = new int[4];
        int many = 0;

        void clear() {
            many = 0;
        }

        void ofPut(int c, int reason, int told) {
            clear();
            addThree(c, reason, told);
        }

        void ofFill(int placed, int c, int reason, int told) {
            numbers[0] = 20 + placed;
            many = 1;
            addThree(c, reason, told);
        }

        private void addThree(int c, int reason, int told) {
            if (many + 3 > numbers.length) return;
            numbers[many] = 10 + c;
            numbers[many + 1] = reason;
            numbers[many + 2] = told;
            many += 3;
        }

        int number(int i) {
            return i >= 0 && i < many ? numbers[i] : NONE;
        }
    }

    /** What cores were seen to take. */
    private static final class Sightings {
        private final Chip chip;
        private final int[] cores = new int[MOST_SEEN];
        private final int[] widths = new int[MOST_SEEN];
        private final int[] cycles = new int[MOST_SEEN];
        int many = 0;

        Sightings(Chip chip) {
            this.chip = chip;
        }

        void clear() {
            many = 0;
        }

        void add(int c, int w, int t) {
            if (many >= MOST_SEEN) return;
            cores[many] = c;
            widths[many] = w;
            cycles[many] = t;
            many++;
        }

        int kindsOf(int c) {
            int bits = 0;
            for (int k = 0; k < KINDS; k++) {
                if (agree(c, k)) bits |= 1 << k;
            }
            return bits;
        }

        private boolean agree(int c, int k) {
            for (int i = 0; i < many; i++) {
                if (cores[i] == c && chip.takes(c, k, widths[i]) != cycles[i]) return false;
            }
            return true;
        }
    }
}
