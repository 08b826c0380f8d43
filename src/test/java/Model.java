import java.util.ArrayDeque;
import java.util.ArrayList;
import java.util.Deque;
import java.util.HashMap;
import java.util.List;
import java.util.Map;
import java.util.regex.Matcher;
import java.util.regex.Pattern;

/**
 * The document once more, written for the tests alone and by other ways than the class:
 * items are matched by patterns, cycles are looked at one by one, all orders are gone
 * through, and all layings of chains.
 */
public final class Model {
    private static final int BAD = -1, NO = -2, FULL = -3, NONE = -4;
    private static final String FIRST =
        "w4;m20;c0,5,6,9433;c1,4,9,72;c2,9,4,5551;c3,8,11,8643;c0,12,5,31;b0,3;b1,4;";
    private static final Pattern LINES = Pattern.compile("w(\\d\\d?);");
    private static final Pattern POWER = Pattern.compile("m(\\d\\d?);");
    private static final Pattern CORE = Pattern.compile("c(\\d\\d?),(\\d\\d?),(\\d\\d?),([1-9]{1,6});");
    private static final Pattern RULE = Pattern.compile("b(\\d\\d?),(\\d\\d?);");

    private record Told(int kind, int patterns, int draws, int[] chains) { }
    private record Sight(int core, int width, int cycles) { }
    private record Spot(int width, int from, int end) { }

    /** What a text tells, as far as it is read, and the place of its first fault. */
    private static final class Parsed {
        int lines = 4, power = 20, fault = NONE;
        final List<Told> cores = new ArrayList<>();
        final List<int[]> rules = new ArrayList<>();
    }

    private static final class State {
        final int[] kinds;
        final Spot[] spots;

        State(int[] kinds, Spot[] spots) {
            this.kinds = kinds.clone();
            this.spots = spots.clone();
        }

        State copy() {
            return new State(kinds, spots);
        }
    }

    private String text = "";
    private Parsed chip;
    private State now;
    private final Deque<State> history = new ArrayDeque<>();
    private final Deque<State> shelf = new ArrayDeque<>();
    private final List<Sight> sights = new ArrayList<>();
    private int[] cause = new int[0];
    private final Map<String, int[]> bests = new HashMap<>();
    private final Map<String, Integer> ideals = new HashMap<>();

    public Model() {
        text = FIRST;
        lay();
        text = "";
    }

    public int write(int letter) {
        if (letter < 32 || letter > 126) return BAD;
        if (text.length() == 200) return FULL;
        text += (char) letter;
        return text.length();
    }

    public int wipe() {
        int length = text.length();
        text = "";
        return length;
    }

    public int fault() {
        return parsed(text).fault;
    }

    public int lay() {
        Parsed p = parsed(text);
        if (p.fault != NONE || p.cores.isEmpty()) return NO;
        chip = p;
        int n = p.cores.size();
        int[] kinds = new int[n];
        for (int c = 0; c < n; c++) kinds[c] = p.cores.get(c).kind();
        now = new State(kinds, new Spot[n]);
        history.clear();
        shelf.clear();
        sights.clear();
        cause = new int[0];
        bests.clear();
        ideals.clear();
        return n;
    }

    private static Parsed parsed(String text) {
        Parsed p = new Parsed();
        int at = 0;
        while (at < text.length()) {
            int end = text.indexOf(';', at);
            String item = end < 0 ? "" : text.substring(at, end + 1);
            if (!takeItem(p, item, at == 0)) {
                p.fault = at;
                return p;
            }
            at = end + 1;
        }
        return p;
    }

    private static boolean takeItem(Parsed p, String item, boolean first) {
        Matcher lines = LINES.matcher(item);
        if (lines.matches()) {
            p.lines = Integer.parseInt(lines.group(1));
            return first && p.lines >= 1 && p.lines <= 8;
        }
        Matcher power = POWER.matcher(item);
        if (power.matches()) {
            p.power = Integer.parseInt(power.group(1));
            return p.power >= 1 && p.power <= 40;
        }
        Matcher core = CORE.matcher(item);
        if (core.matches()) return takeCore(p, core);
        Matcher rule = RULE.matcher(item);
        if (!rule.matches()) return false;
        int a = Integer.parseInt(rule.group(1));
        int b = Integer.parseInt(rule.group(2));
        p.rules.add(new int[] {a, b});
        return a < b && b < p.cores.size() && p.rules.size() <= 8;
    }

    private static boolean takeCore(Parsed p, Matcher core) {
        int k = Integer.parseInt(core.group(1));
        int patterns = Integer.parseInt(core.group(2));
        int draws = Integer.parseInt(core.group(3));
        int[] chains = core.group(4).chars().map(letter -> letter - '0').toArray();
        p.cores.add(new Told(k, patterns, draws, chains));
        return k <= 3 && patterns >= 1 && patterns <= 20 && draws >= 1 && draws <= 30 && p.cores.size() <= 6;
    }

    private int cores() {
        return chip.cores.size();
    }

    private boolean noCore(int c) {
        return c < 0 || c >= cores();
    }

    private boolean noWidth(int w) {
        return w < 1 || w > chip.lines;
    }

    public int core(int c, int what) {
        if (noCore(c) || what < 0 || what > 6) return BAD;
        Told told = chip.cores.get(c);
        Spot spot = now.spots[c];
        int[] answers = {now.kinds[c], told.patterns(), told.draws(), told.chains().length,
            spot == null ? NONE : spot.width(), spot == null ? NONE : spot.from(), stairs(c)};
        return answers[what];
    }

    private int stairs(int c) {
        int bits = 0;
        for (int w = 1; w <= chip.lines; w++) {
            boolean step = true;
            for (int v = 1; v < w; v++) step &= takes(c, w) < takes(c, v);
            if (step) bits += 1 << w;
        }
        return bits;
    }

    public int chain(int c, int i) {
        if (noCore(c) || i < 0) return BAD;
        int[] chains = chip.cores.get(c).chains();
        return i < chains.length ? chains[i] : NONE;
    }

    /** On which line each chain lies, and behind them the load. */
    private int[] laid(int c, int w) {
        int[] chains = chip.cores.get(c).chains();
        int[] answer = new int[chains.length + 1];
        int[] loads = new int[w];
        for (int length = 9; length >= 1; length--) {
            for (int i = 0; i < chains.length; i++) {
                if (chains[i] != length) continue;
                int to = 0;
                for (int l = w - 1; l >= 0; l--) if (loads[l] <= loads[to]) to = l;
                answer[i] = to;
                loads[to] += length;
            }
        }
        for (int load : loads) answer[chains.length] = Math.max(answer[chains.length], load);
        return answer;
    }

    private int load(int c, int w) {
        int[] laid = laid(c, w);
        return laid[laid.length - 1];
    }

    private int ideal(int c, int w) {
        return ideals.computeIfAbsent(c + "/" + w, key -> {
            int[] chains = chip.cores.get(c).chains();
            long ways = Math.round(Math.pow(w, chains.length));
            int least = 1000;
            for (long way = 0; way < ways; way++) {
                int[] loads = new int[w];
                long rest = way;
                int most = 0;
                for (int length : chains) {
                    int to = (int) (rest % w);
                    rest /= w;
                    loads[to] += length;
                    most = Math.max(most, loads[to]);
                }
                least = Math.min(least, most);
            }
            return least;
        });
    }

    private int takes(int c, int w) {
        return takes(c, w, now.kinds[c]);
    }

    private int takes(int c, int w, int k) {
        int p = chip.cores.get(c).patterns();
        int l = load(c, w);
        int sum = l;
        for (int i = 0; i < p; i++) sum += l + 1;
        if (k == 0) return sum;
        if (k == 2) return sum < 60 ? 60 : sum;
        for (int i = 0; i < p; i++) sum += l;
        if (k == 1) return sum;
        return (int) Math.floor((sum + 1) / 2.0);
    }

    public int wrap(int c, int w, int what) {
        if (noCore(c) || noWidth(w) || what < 0 || what > 2) return BAD;
        return what == 0 ? load(c, w) : what == 1 ? ideal(c, w) : takes(c, w);
    }

    public int line(int c, int w, int i) {
        if (noCore(c) || noWidth(w) || i < 0) return BAD;
        return i < chip.cores.get(c).chains().length ? laid(c, w)[i] : NONE;
    }

    private boolean isRule(int a, int b, int leftOut) {
        for (int r = 0; r < chip.rules.size(); r++) {
            int[] rule = chip.rules.get(r);
            if (r != leftOut && rule[0] == a && rule[1] == b) return true;
        }
        return false;
    }

    private int used(Spot[] spots, int t, boolean power) {
        int sum = 0;
        for (int c = 0; c < spots.length; c++) {
            Spot s = spots[c];
            if (s != null && t >= s.from() && t < s.end()) sum += power ? chip.cores.get(c).draws() : s.width();
        }
        return sum;
    }

    /** Null: not refused; else the reason and the core or cycle. */
    private int[] refusal(Spot[] spots, int c, int w, int t, int leftOut) {
        int end = t + takes(c, w);
        for (int a = 0; a < cores(); a++) {
            if (isRule(a, c, leftOut) && (spots[a] == null || spots[a].end() > t)) return new int[] {1, a};
        }
        for (int b = 0; b < cores(); b++) {
            if (isRule(c, b, leftOut) && spots[b] != null && spots[b].from() < end) return new int[] {2, b};
        }
        for (int u = t; u < end; u++) if (used(spots, u, false) + w > chip.lines) return new int[] {3, u};
        int draws = chip.cores.get(c).draws();
        for (int u = t; u < end; u++) if (used(spots, u, true) + draws > chip.power) return new int[] {4, u};
        return null;
    }

    private int soonest(Spot[] spots, int c, int w, int leftOut) {
        int end = length(spots);
        for (int t = 0; t <= end; t++) {
            int[] refusal = refusal(spots, c, w, t, leftOut);
            if (refusal == null) return t;
            if (refusal[0] == 2) return NONE;
            if (refusal[0] == 1) {
                Spot ahead = spots[refusal[1]];
                if (ahead == null) return NONE;
                t = ahead.end() - 1;
            } else {
                t = refusal[1];
            }
        }
        return NONE;
    }

    private static int length(Spot[] spots) {
        int length = 0;
        for (Spot s : spots) if (s != null && s.end() > length) length = s.end();
        return length;
    }

    private Spot doneFirst(Spot[] spots, int c, int leftOut) {
        Spot found = null;
        for (int w = 1; w <= chip.lines; w++) {
            int t = soonest(spots, c, w, leftOut);
            if (t == NONE) continue;
            Spot s = new Spot(w, t, t + takes(c, w));
            if (found == null || s.end() < found.end()) found = s;
        }
        return found;
    }

    private void did() {
        history.push(now.copy());
        if (history.size() > 8) history.removeLast();
    }

    public int put(int c, int w, int t) {
        if (noCore(c) || noWidth(w) || t < 0 || t > 99999) return BAD;
        if (now.spots[c] != null) return NO;
        int[] refusal = refusal(now.spots, c, w, t, -1);
        if (refusal != null) {
            cause = new int[] {10 + c, refusal[0], refusal[1]};
            return NO;
        }
        did();
        now.spots[c] = new Spot(w, t, t + takes(c, w));
        return length(now.spots);
    }

    public int take(int c) {
        if (noCore(c)) return BAD;
        if (now.spots[c] == null) return NO;
        did();
        now.spots[c] = null;
        return length(now.spots);
    }

    public int fill() {
        Spot[] spots = now.spots.clone();
        int placed = 0;
        while (true) {
            int next = -1;
            for (int c = cores() - 1; c >= 0; c--) {
                boolean free = spots[c] == null;
                for (int a = 0; a < cores(); a++) free &= !isRule(a, c, -1) || spots[a] != null;
                if (free) next = c;
            }
            if (next < 0) break;
            Spot s = doneFirst(spots, next, -1);
            if (s == null) {
                int[] refusal = refusal(spots, next, 1, length(spots), -1);
                cause = new int[] {20 + placed, 10 + next, refusal[0], refusal[1]};
                return NO;
            }
            spots[next] = s;
            placed++;
        }
        did();
        now = new State(now.kinds, spots);
        return length(spots);
    }

    public int rename(int c, int k) {
        if (noCore(c) || k < 0 || k > 3) return BAD;
        int was = now.kinds[c];
        if (was == k || now.spots[c] != null) return NO;
        did();
        now.kinds[c] = k;
        return was;
    }

    public int undo() {
        if (history.isEmpty()) return NO;
        now = history.pop();
        return history.size();
    }

    public int why(int i) {
        if (i < -1) return BAD;
        if (i == -1) return cause.length;
        return i < cause.length ? cause[i] : NONE;
    }

    public int soonest(int c, int w) {
        if (noCore(c) || noWidth(w)) return BAD;
        return now.spots[c] != null ? NONE : soonest(now.spots, c, w, -1);
    }

    public int runs(int t, int what) {
        if (t < 0 || t > 99999 || what < 0 || what > 2) return BAD;
        if (what < 2) return used(now.spots, t, what == 1);
        int bits = 0;
        for (int c = 0; c < cores(); c++) {
            Spot s = now.spots[c];
            if (s != null && t >= s.from() && t < s.end()) bits |= 1 << c;
        }
        return bits;
    }

    private int leastTaken(int c) {
        int least = takes(c, 1);
        for (int w = 2; w <= chip.lines; w++) least = Math.min(least, takes(c, w));
        return least;
    }

    private int longestFrom(int c) {
        int behind = 0;
        for (int b = 0; b < cores(); b++) if (isRule(c, b, -1)) behind = Math.max(behind, longestFrom(b));
        return leastTaken(c) + behind;
    }

    public int bound(int what) {
        if (what < 0 || what > 3) return BAD;
        int area = 0;
        int path = 0;
        int drawn = 0;
        for (int c = 0; c < cores(); c++) {
            int least = takes(c, 1);
            for (int w = 2; w <= chip.lines; w++) least = Math.min(least, w * takes(c, w));
            area += least;
            path = Math.max(path, longestFrom(c));
            drawn += leastTaken(c) * chip.cores.get(c).draws();
        }
        int[] all = {(int) Math.ceil(area / (double) chip.lines), path, (int) Math.ceil(drawn / (double) chip.power), 0};
        all[3] = Math.max(all[0], Math.max(all[1], all[2]));
        return all[what];
    }

    /** The least length and behind it the order; empty: none. */
    private int[] bestOrder(int leftOut) {
        StringBuilder key = new StringBuilder().append(leftOut);
        for (int k : now.kinds) key.append('/').append(k);
        return bests.computeIfAbsent(key.toString(), unused -> {
            for (Told told : chip.cores) if (told.draws() > chip.power) return new int[0];
            int[] found = new int[cores() + 1];
            found[0] = Integer.MAX_VALUE;
            goOn(new Spot[cores()], new int[cores()], 0, leftOut, found);
            return found;
        });
    }

    private void goOn(Spot[] spots, int[] order, int depth, int leftOut, int[] found) {
        if (depth == order.length) {
            int length = length(spots);
            if (length < found[0]) {
                found[0] = length;
                System.arraycopy(order, 0, found, 1, depth);
            }
            return;
        }
        for (int c = 0; c < spots.length; c++) {
            boolean free = spots[c] == null;
            for (int a = 0; a < spots.length; a++) free &= !isRule(a, c, leftOut) || spots[a] != null;
            if (!free) continue;
            order[depth] = c;
            spots[c] = doneFirst(spots, c, leftOut);
            goOn(spots, order, depth + 1, leftOut, found);
            spots[c] = null;
        }
    }

    public int best(int k) {
        if (k < -1 || k >= cores()) return BAD;
        int[] found = bestOrder(-1);
        return found.length == 0 ? NONE : found[k + 1];
    }

    public int costs(int b) {
        if (b < 0 || b >= chip.rules.size()) return BAD;
        int[] with = bestOrder(-1);
        int[] without = bestOrder(b);
        return with.length == 0 ? NONE : with[0] - without[0] + 100000;
    }

    public int seen(int c, int w, int t) {
        if (noCore(c) || noWidth(w) || t < 1 || t > 9999) return BAD;
        if (sights.size() == 6) return FULL;
        sights.add(new Sight(c, w, t));
        return sights.size();
    }

    public int forget() {
        int many = sights.size();
        sights.clear();
        return many;
    }

    public int kinds(int c) {
        if (noCore(c)) return BAD;
        int bits = 15;
        for (Sight s : sights) {
            for (int k = 0; k < 4; k++) {
                if (s.core() == c && takes(c, s.width(), k) != s.cycles()) bits &= ~(1 << k);
            }
        }
        return bits;
    }

    public int keep() {
        if (shelf.size() == 2) return FULL;
        shelf.push(now.copy());
        return shelf.size();
    }

    public int back() {
        if (shelf.isEmpty()) return NO;
        now = shelf.pop();
        history.clear();
        return shelf.size();
    }

    public int count(int what) {
        int put = 0;
        for (Spot s : now.spots) if (s != null) put++;
        int[] all = {cores(), chip.rules.size(), chip.lines, chip.power, put, length(now.spots), sights.size(),
            history.size(), shelf.size(), text.length()};
        return what < 0 || what >= all.length ? BAD : all[what];
    }
}
