import java.util.ArrayDeque;
import java.util.ArrayList;
import java.util.Deque;
import java.util.List;
import java.util.Map;
import java.util.Random;
import java.util.TreeMap;
import java.util.regex.Matcher;
import java.util.regex.Pattern;

/** Long runs of calls against a second telling of the document, built otherwise: maps, copies and a pattern. */
public final class ModelTest {
    private static final int RUNS = 1500;
    /** An object is used for at most 512 calls; the last step of a run may be a text, of some 125. */
    private static final int CALLS = 512 - 125;
    private static final int STEPS_A_DIGEST = 10;

    /** A STATE: KEY to {VALUE, CELL}, and what is counted. */
    private static final class State {
        int size = 16;
        int mode = 0;
        int spacings = 0;
        int moves = 0;
        int doubled = 0;
        int halved = 0;
        final TreeMap<Integer, int[]> keys = new TreeMap<>();
        final List<int[]> log = new ArrayList<>();

        State copy() {
            State s = new State();
            s.size = size;
            s.mode = mode;
            s.spacings = spacings;
            s.moves = moves;
            s.doubled = doubled;
            s.halved = halved;
            keys.forEach((k, r) -> s.keys.put(k, r.clone()));
            s.log.addAll(log);
            return s;
        }

        int top() {
            return Integer.numberOfTrailingZeros(size) - 2;
        }

        int most(int i) {
            return (4 << i) * (100 - (25 * i) / top()) / 100;
        }

        int least(int i) {
            return (4 << i) * (25 + (5 * i) / top()) / 100;
        }

        List<Integer> in(int from, int cells) {
            List<Integer> found = new ArrayList<>();
            keys.forEach((k, r) -> {
                if (r[1] >= from && r[1] < from + cells) {
                    found.add(k);
                }
            });
            return found;
        }

        Integer at(int cell) {
            for (Map.Entry<Integer, int[]> e : keys.entrySet()) {
                if (e.getValue()[1] == cell) {
                    return e.getKey();
                }
            }
            return -1;
        }

        /** comer: the KEY that comes (in the map already, CELL -1), or null. */
        int spacing(List<Integer> those, int from, int c, Integer comer) {
            int m = those.size();
            int moved = 0;
            int x = mode == 1 && comer != null ? (c - m) / 2 : 0;
            for (int j = 0; j < m; j++) {
                int k = those.get(j);
                int to = from + j * (c - x) / m + (x > 0 && k > comer ? x : 0);
                moved += keys.get(k)[1] == to ? 0 : 1;
                keys.get(k)[1] = to;
            }
            log.add(0, new int[] {from, c, moved});
            if (log.size() > 8) {
                log.remove(8);
            }
            spacings++;
            moves += moved;
            return moved;
        }

        int puts(int k, int v) {
            if (k < 0 || k > 999 || v < 0 || v > 99) {
                return -2;
            }
            if (keys.containsKey(k)) {
                int was = keys.get(k)[0];
                keys.get(k)[0] = v;
                return was + 100;
            }
            Map.Entry<Integer, int[]> below = keys.lowerEntry(k);
            int cell = below == null ? 0 : below.getValue()[1];
            for (int i = 0; i <= top(); i++) {
                int c = 4 << i;
                int from = cell - cell % c;
                List<Integer> those = in(from, c);
                if (those.size() < most(i)) {
                    keys.put(k, new int[] {v, -1});
                    those.add(k);
                    those.sort(null);
                    return spacing(those, from, c, k);
                }
            }
            if (size == 64) {
                return -4;
            }
            size *= 2;
            doubled++;
            keys.put(k, new int[] {v, -1});
            return spacing(new ArrayList<>(keys.keySet()), 0, size, k);
        }

        int takes(int k) {
            if (k < 0 || k > 999) {
                return -2;
            }
            if (!keys.containsKey(k)) {
                return -3;
            }
            int[] gone = keys.remove(k);
            for (int i = 0; i <= top(); i++) {
                int c = 4 << i;
                int from = gone[1] - gone[1] % c;
                if (in(from, c).size() >= least(i)) {
                    if (i > 0) {
                        spacing(in(from, c), from, c, null);
                    }
                    return gone[0];
                }
            }
            if (size > 16) {
                size /= 2;
                halved++;
            }
            spacing(new ArrayList<>(keys.keySet()), 0, size, null);
            return gone[0];
        }

        int drops(int a, int b) {
            if (a < 0 || b > 999 || b < a) {
                return -2;
            }
            List<Integer> those = new ArrayList<>(keys.subMap(a, true, b, true).keySet());
            those.forEach(this::takes);
            return those.size();
        }

        int mode(int n) {
            if (n != 0 && n != 1) {
                return -2;
            }
            int was = mode;
            mode = n;
            return was;
        }

        int count(int what) {
            return new int[] {size, keys.size(), mode, spacings, moves, doubled, halved}[what];
        }
    }

    private static final Pattern TEXT =
        Pattern.compile("(?: *(?:[pd] *[0-9]{1,3} +[0-9]{1,3}|[tm] *[0-9]{1,3}) *;)+ *");
    private static final Pattern ORDER = Pattern.compile("([pdtm]) *([0-9]+)(?: +([0-9]+))? *;");

    private State now = new State();
    private final Deque<State> states = new ArrayDeque<>();
    private final int[] refused = new int[3];
    private String text = "";

    private int answer(int a) {
        if (a <= -2 && a >= -4) {
            refused[-2 - a]++;
        }
        return a;
    }

    private void leave(State ahead) {
        states.push(ahead);
        if (states.size() > 5) {
            states.removeLast();
        }
    }

    private int leaving(State ahead, int a) {
        if (a >= 0) {
            leave(ahead);
        }
        return answer(a);
    }

    private int fault() {
        for (int n = 1; n <= text.length(); n++) {
            Matcher m = TEXT.matcher(text.substring(0, n));
            if (!m.matches() && !m.hitEnd()) {
                return n - 1;
            }
        }
        return TEXT.matcher(text).matches() ? -1 : text.length();
    }

    private int order(State s, Matcher m) {
        int a = Integer.parseInt(m.group(2));
        switch (m.group(1)) {
            case "p":
                return s.puts(a, Integer.parseInt(m.group(3)));
            case "d":
                return s.drops(a, Integer.parseInt(m.group(3)));
            case "t":
                return s.takes(a);
            default:
                return s.mode(a);
        }
    }

    private int does() {
        int fault = fault();
        if (fault >= 0) {
            return -10 - fault;
        }
        State then = now.copy();
        Matcher m = ORDER.matcher(text);
        int done = 0;
        while (m.find()) {
            if (order(then, m) < 0) {
                return -1000 - done;
            }
            done++;
        }
        leave(now);
        now = then;
        return done;
    }

    private int scan(int a, int b, int what) {
        if (a < 0 || b > 999 || b < a || what < 0 || what > 2) {
            return -2;
        }
        Map<Integer, int[]> those = now.keys.subMap(a, true, b, true);
        if (what == 0 || those.isEmpty()) {
            return those.size();
        }
        int sum = 0;
        int low = 64;
        int high = 0;
        for (int[] r : those.values()) {
            sum += r[0];
            low = Math.min(low, r[1]);
            high = Math.max(high, r[1]);
        }
        return what == 1 ? sum : high - low + 1;
    }

    private int window(int i, int j, int what) {
        if (i < 0 || i > now.top() || what < 0 || what > 2 || j < 0 || j >= now.size / (4 << i)) {
            return -2;
        }
        int c = 4 << i;
        return what == 0 ? now.in(j * c, c).size() : what == 1 ? now.most(i) : now.least(i);
    }

    private int index(int g) {
        List<Integer> those = now.in(4 * g, 4);
        return those.isEmpty() ? -1 : those.get(0);
    }

    private int told(int what) {
        return what < 3 ? refused[what] : what == 3 ? text.length() : states.size();
    }

    private long digest() {
        List<Integer> all = new ArrayList<>();
        for (int what = 0; what <= 4; what++) {
            all.add(told(what));
        }
        for (int what = 0; what <= 6; what++) {
            all.add(now.count(what));
        }
        for (int c = 0; c < now.size; c++) {
            int k = now.at(c);
            all.add(k);
            if (k >= 0) {
                all.add(now.keys.get(k)[0]);
            }
        }
        for (int g = 0; g < now.size / 4; g++) {
            all.add(index(g));
        }
        for (int[] l : now.log) {
            all.add(l[0]);
            all.add(l[1]);
            all.add(l[2]);
        }
        long h = 1837;
        for (int v : all) {
            h = 31 * h + v;
        }
        return h;
    }

    // ---- the runs

    private final Random random;
    private final GapRow x = new GapRow();
    private final String run;
    private final int span;
    private final int style;
    private int calls = 0;

    private ModelTest(int seed) {
        random = new Random(seed);
        run = "run " + seed;
        span = new int[] {1000, 200, 80}[seed % 3];
        style = seed % 5;
    }

    private int num(int from, int to) {
        return from + random.nextInt(to - from + 1);
    }

    private int aKey() {
        return num(0, 40) == 0 ? num(-2, 1002) : num(0, span - 1);
    }

    /** One that is there, most often: keys drawn at random would seldom be met. */
    private int aKeyThere() {
        if (now.keys.isEmpty() || num(0, 9) == 0) {
            return aKey();
        }
        List<Integer> all = new ArrayList<>(now.keys.keySet());
        return all.get(num(0, all.size() - 1));
    }

    private int aComer() {
        // By style 1 keys rise, by 2 they fall, by 3 they come at one place: windows get dense there.
        if (now.keys.isEmpty() || style == 0 || style == 4 || num(0, 9) == 0) {
            return aKey();
        }
        return style == 1 ? Math.min(999, now.keys.lastKey() + num(1, 4))
            : style == 2 ? Math.max(0, now.keys.firstKey() - num(1, 4)) : num(span / 2, span / 2 + 30);
    }

    private void due(String call, long got, long want) {
        calls++;
        Due.is(run + ": " + call, got, want);
    }

    private void change(boolean growing) {
        State ahead = now.copy();
        int pick = num(0, 99);
        if (pick < (growing ? 75 : 20)) {
            int k = aComer();
            int v = num(0, 30) == 0 ? num(-1, 101) : num(0, 99);
            due("puts(" + k + ", " + v + ")", x.puts(k, v), leaving(ahead, now.puts(k, v)));
        } else if (pick < 80) {
            int k = aKeyThere();
            due("takes(" + k + ")", x.takes(k), leaving(ahead, now.takes(k)));
        } else if (pick < 84) {
            int a = aKey();
            int b = a + num(-1, span / 20);
            due("drops(" + a + ", " + b + ")", x.drops(a, b), leaving(ahead, now.drops(a, b)));
        } else if (pick < 90) {
            int n = num(0, 5) == 0 ? num(-1, 2) : num(0, 1);
            due("mode(" + n + ")", x.mode(n), leaving(ahead, now.mode(n)));
        } else if (pick < 93) {
            int want = now.spacing(new ArrayList<>(now.keys.keySet()), 0, now.size, null);
            due("spaces()", x.spaces(), leaving(ahead, want));
        } else {
            goBack();
        }
    }

    private void goBack() {
        if (states.isEmpty()) {
            due("back()", x.back(), answer(-3));
        } else {
            now = states.pop();
            due("back()", x.back(), states.size());
        }
    }

    private String anOrder() {
        String gap = " ".repeat(num(0, 1));
        switch (num(0, 5)) {
            case 0:
                return "t" + gap + aKeyThere() + gap + ";";
            case 1:
                return "m" + gap + num(0, 1) + ";" + gap;
            case 2:
                int a = num(0, 999);
                return "d" + gap + a + " " + Math.min(999, a + num(-1, 30)) + gap + ";";
            default:
                return gap + "p" + aComer() + " " + gap + num(0, 99) + ";";
        }
    }

    private void aText() {
        due("clear()", x.clear(), text.length());
        StringBuilder made = new StringBuilder();
        for (int n = num(1, 8); n > 0; n--) {
            made.append(anOrder());
        }
        if (num(0, 2) == 0) {
            made.setCharAt(num(0, made.length() - 1), " ;0pdtm9x".charAt(num(0, 8)));
        }
        if (num(0, 5) == 0) {
            made.setLength(num(0, made.length()));
        }
        text = "";
        for (int i = 0; i < made.length(); i++) {
            boolean fits = text.length() < 120;
            if (fits) {
                text += made.charAt(i);
            }
            due("type(" + (int) made.charAt(i) + ")", x.type(made.charAt(i)), fits ? text.length() : answer(-4));
        }
        String whole = text;
        due("does() of '" + whole + "'", x.does(), does());
    }

    private void asks() {
        int k = num(0, 3) == 0 ? aKey() : aKeyThere();
        boolean good = k >= 0 && k <= 999;
        int[] r = now.keys.get(k);
        due("value(" + k + ")", x.value(k), !good ? answer(-2) : r == null ? answer(-3) : r[0]);
        due("cell(" + k + ")", x.cell(k), !good ? answer(-2) : r == null ? -1 : r[1]);
        due("rank(" + k + ")", x.rank(k), k < 0 || k > 1000 ? answer(-2) : now.keys.headMap(k).size());
        int c = num(-1, now.size);
        due("at(" + c + ")", x.at(c), c < 0 || c >= now.size ? answer(-2) : now.at(c));
        int i = num(-1, now.keys.size());
        due("key(" + i + ")", x.key(i), i < 0 ? answer(-2)
            : i >= now.keys.size() ? -1 : new ArrayList<>(now.keys.keySet()).get(i));
        int b = k + num(-1, span / 3);
        int what = num(0, 20) == 0 ? num(-1, 7) : num(0, 2);
        due("scan(" + k + ", " + b + ", " + what + ")", x.scan(k, b, what), answer(scan(k, b, what)));
        int g = num(-1, now.size / 4);
        due("index(" + g + ")", x.index(g), g < 0 || g >= now.size / 4 ? answer(-2) : index(g));
        int level = num(-1, now.top() + 1);
        int j = level < 0 ? 0 : num(-1, now.size / (4 << level));
        due("window(" + level + ", " + j + ", " + what + ")", x.window(level, j, what), answer(window(level, j, what)));
        int w = num(-1, 7);
        due("count(" + w + ")", x.count(w), w < 0 || w > 6 ? answer(-2) : now.count(w));
        int l = num(-1, 9);
        due("log(" + l + ", " + what + ")", x.log(l, what), l < 0 || what < 0 || what > 2 ? answer(-2)
            : l >= now.log.size() ? -1 : now.log.get(l)[what]);
        due("told(" + w + ")", x.told(w), w < 0 || w > 4 ? answer(-2) : told(w));
    }

    private void play() {
        for (int step = 1; calls < CALLS; step++) {
            boolean growing = calls / 120 % 2 == 0;
            int pick = num(0, 29);
            if (pick == 0) {
                aText();
            } else if (pick == 1) {
                asks();
            } else {
                change(growing);
            }
            if (step % STEPS_A_DIGEST == 0) {
                due("digest()", x.digest(), digest());
            }
        }
        due("digest()", x.digest(), digest());
    }

    public static void main(String[] args) {
        for (int seed = 0; seed < RUNS; seed++) {
            new ModelTest(seed).play();
        }
        Due.end();
    }
}
