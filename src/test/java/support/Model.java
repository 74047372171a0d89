import java.util.ArrayList;
import java.util.Arrays;
import java.util.HashMap;
import java.util.HashSet;
import java.util.List;
import java.util.Map;
import java.util.NoSuchElementException;
import java.util.Set;
import java.util.function.ToIntFunction;

/**
 * The document read a second time, by brute force where that can be done and with the whole library:
 * the random runs hold the class against it. Nothing here is shared with the class.
 */
public final class Model {
    /** A FAULT on its way out of a reader. */
    private static final class Fault extends RuntimeException {
        final int kind;
        final int place;

        Fault(int kind, int place) {
            super(null, null, false, false);
            this.kind = kind;
            this.place = place;
        }
    }

    private record Token(char kind, String text, int place) { }

    private record View(int x, int worth) { }

    private record Bubble(int size, int x, int age) { }

    private record Step(String word, int[] numbers, List<Step> body) { }

    private record Image(State now, List<State> before) { }

    private static final class State {
        int breath;
        int blown;
        int burst;
        int[] money = new int[0];
        int[] stand = new int[0];
        Bubble[] bubbles = new Bubble[0];

        State copy() {
            State s = new State();
            s.breath = breath;
            s.blown = blown;
            s.burst = burst;
            s.money = money.clone();
            s.stand = stand.clone();
            s.bubbles = bubbles.clone();
            return s;
        }
    }

    private final List<Integer> tape = new ArrayList<>();
    private int faultPlace = -1;
    private List<View> views = new ArrayList<>();
    private int soap = 8;
    private ToIntFunction<Map<String, Integer>> law = plainLaw();
    private Map<Integer, Integer> book = new HashMap<>();
    private State now = new State();
    private List<State> before = new ArrayList<>();
    private final List<Image> images = new ArrayList<>();
    private int refused;
    private int begun;
    private int done;
    private int noSuch;
    private int wrong;
    private int seed;

    private static ToIntFunction<Map<String, Integer>> plainLaw() {
        return m -> m.get("soap") * 2 - m.get("size") / 2 + m.get("walls");
    }

    // ---- refusals

    private void argument(boolean right) {
        if (!right) {
            wrong++;
            throw new IllegalArgumentException();
        }
    }

    private void element(boolean there) {
        if (!there) {
            noSuch++;
            throw new NoSuchElementException();
        }
    }

    private static boolean in(int value, int least, int most) {
        return least <= value && value <= most;
    }

    private int tenants() {
        return now.money.length;
    }

    // ---- reading

    private List<Token> tokens;
    private int next;

    private void tokenise(int n) {
        StringBuilder text = new StringBuilder();
        for (int i = 0; i < n; i++) {
            text.append((char) (int) tape.get(i));
        }
        tokens = new ArrayList<>();
        next = 0;
        int i = 0;
        while (i < n) {
            char c = text.charAt(i);
            int end = i + 1;
            if (c == ' ') {
                i++;
                continue;
            }
            if (c >= '0' && c <= '9') {
                while (end < n && text.charAt(end) >= '0' && text.charAt(end) <= '9') {
                    end++;
                }
                tokens.add(new Token('n', text.substring(i, end), i));
            } else if (c >= 'a' && c <= 'z') {
                while (end < n && text.charAt(end) >= 'a' && text.charAt(end) <= 'z') {
                    end++;
                }
                tokens.add(new Token('w', text.substring(i, end), i));
            } else {
                tokens.add(new Token('s', String.valueOf(c), i));
            }
            i = end;
        }
        tokens.add(new Token('e', "", n));
    }

    private Token token() {
        return tokens.get(next);
    }

    private int number(int least, int most) {
        Token t = token();
        if (t.kind() != 'n') {
            throw new Fault(1, t.place());
        }
        java.math.BigInteger value = new java.math.BigInteger(t.text());
        if (value.bitLength() > 20 || value.intValue() < least || value.intValue() > most) {
            throw new Fault(2, t.place());
        }
        next++;
        return value.intValue();
    }

    private void sign(String sign) {
        Token t = token();
        if (t.kind() != 's' || !t.text().equals(sign)) {
            throw new Fault(1, t.place());
        }
        next++;
    }

    private boolean at(String sign) {
        return token().kind() == 's' && token().text().equals(sign);
    }

    private Token word(String... words) {
        Token t = token();
        if (t.kind() != 'w' || !Arrays.asList(words).contains(t.text())) {
            throw new Fault(1, t.place());
        }
        next++;
        return t;
    }

    private boolean atEnd() {
        return token().kind() == 'e';
    }

    private int read(int n, int most, java.util.function.IntSupplier reader) {
        argument(in(n, 0, Math.min(most, tape.size())));
        tokenise(n);
        tape.clear();
        faultPlace = -1;
        try {
            return reader.getAsInt();
        } catch (Fault f) {
            faultPlace = f.place;
            return f.kind - 10;
        }
    }

    public int feed(int a, int b, int c, int d, int e) {
        if (tape.size() > 580) {
            return -1;
        }
        for (int v : new int[] {a, b, c, d, e}) {
            for (byte x : java.nio.ByteBuffer.allocate(4).putInt(v).array()) {
                tape.add(x & 255);
            }
        }
        return tape.size();
    }

    public int corner(int n) {
        return read(n, 600, () -> {
            List<View> seen = new ArrayList<>();
            List<int[]> people = new ArrayList<>();
            int bar = 8;
            for (int clause = 1; !atEnd(); clause++) {
                Token t = word("view", "tenant", "soap");
                boolean full = t.text().equals("view") && seen.size() == 8
                        || t.text().equals("tenant") && people.size() == 5;
                if (clause > 60 || full) {
                    throw new Fault(3, t.place());
                }
                switch (t.text()) {
                    case "view" -> seen.add(new View(number(0, 99), number(0, 60)));
                    case "tenant" -> people.add(new int[] {number(0, 99), number(0, 99)});
                    default -> bar = number(1, 20);
                }
                sign(";");
            }
            views = seen;
            soap = bar;
            now = new State();
            now.money = people.stream().mapToInt(p -> p[0]).toArray();
            now.stand = people.stream().mapToInt(p -> p[1]).toArray();
            now.bubbles = new Bubble[people.size()];
            law = plainLaw();
            book = new HashMap<>();
            before = new ArrayList<>();
            images.clear();
            refused = 0;
            return people.size();
        });
    }

    public int law(int n) {
        return read(n, 150, () -> {
            ToIntFunction<Map<String, Integer>> read = sum(0);
            if (!atEnd()) {
                throw new Fault(1, token().place());
            }
            law = read;
            return 1;
        });
    }

    private ToIntFunction<Map<String, Integer>> sum(int open) {
        ToIntFunction<Map<String, Integer>> left = product(open);
        while (at("+") || at("-")) {
            boolean plus = at("+");
            next++;
            ToIntFunction<Map<String, Integer>> l = left;
            ToIntFunction<Map<String, Integer>> r = product(open);
            left = plus ? m -> l.applyAsInt(m) + r.applyAsInt(m) : m -> l.applyAsInt(m) - r.applyAsInt(m);
        }
        return left;
    }

    private ToIntFunction<Map<String, Integer>> product(int open) {
        ToIntFunction<Map<String, Integer>> left = unit(open);
        while (at("*") || at("/") || at("%")) {
            String op = token().text();
            next++;
            ToIntFunction<Map<String, Integer>> l = left;
            ToIntFunction<Map<String, Integer>> r = unit(open);
            left = m -> {
                long a = l.applyAsInt(m);
                long b = r.applyAsInt(m);
                if (op.equals("*")) {
                    return (int) (a * b);
                }
                if (b == 0) {
                    return 0;
                }
                return (int) (op.equals("/") ? a / b : a % b);
            };
        }
        return left;
    }

    private ToIntFunction<Map<String, Integer>> unit(int open) {
        if (token().kind() == 'n') {
            int value = number(0, 999);
            return m -> value;
        }
        if (at("(")) {
            if (open == 6) {
                throw new Fault(3, token().place());
            }
            next++;
            ToIntFunction<Map<String, Integer>> inner = sum(open + 1);
            sign(")");
            return inner;
        }
        Token t = word("size", "soap", "walls", "place", "worth", "breath", "blown", "tenant", "least", "most");
        boolean least = t.text().equals("least");
        if (!least && !t.text().equals("most")) {
            return m -> m.get(t.text());
        }
        if (open == 6) {
            throw new Fault(3, t.place());
        }
        sign("[");
        ToIntFunction<Map<String, Integer>> l = sum(open + 1);
        sign(",");
        ToIntFunction<Map<String, Integer>> r = sum(open + 1);
        sign("]");
        return m -> least ? Math.min(l.applyAsInt(m), r.applyAsInt(m)) : Math.max(l.applyAsInt(m), r.applyAsInt(m));
    }

    public int book(int n) {
        return read(n, 60, () -> {
            Map<Integer, Integer> lines = new HashMap<>();
            while (!atEnd()) {
                int place = token().place();
                int v = number(0, views.size() - 1);
                if (lines.containsKey(v)) {
                    throw new Fault(2, place);
                }
                lines.put(v, number(0, 5));
                sign(";");
            }
            book = lines;
            return lines.size();
        });
    }

    public int work(int n) {
        argument(in(n, 0, Math.min(150, tape.size())));
        if (before.size() == 16) {
            tape.clear();
            faultPlace = -1;
            return -20;
        }
        return read(n, 150, () -> {
            List<Step> steps = steps(0);
            if (!atEnd()) {
                throw new Fault(1, token().place());
            }
            before.add(now.copy());
            begun = 0;
            done = 0;
            refused = 0;
            perform(steps);
            return done;
        });
    }

    private List<Step> steps(int open) {
        List<Step> list = new ArrayList<>();
        while (!atEnd() && !at("]")) {
            Token t = word("blow", "east", "west", "run", "sell", "keep", "breath", "again");
            if (t.text().equals("again") && open == 6) {
                throw new Fault(3, t.place());
            }
            int last = tenants() - 1;
            int[] numbers = switch (t.text()) {
                case "blow" -> new int[] {number(0, last), number(1, 20)};
                case "east", "west" -> new int[] {number(1, 20)};
                case "run" -> new int[] {number(0, last), number(0, 99)};
                case "sell" -> new int[] {number(0, last), number(0, last), number(0, 99)};
                case "keep" -> new int[] {number(0, last)};
                case "again" -> new int[] {number(0, 30)};
                default -> new int[0];
            };
            List<Step> body = null;
            if (t.text().equals("again")) {
                sign("[");
                body = steps(open + 1);
                sign("]");
            }
            sign(";");
            list.add(new Step(t.text(), numbers, body));
        }
        return list;
    }

    private void perform(List<Step> steps) {
        for (Step s : steps) {
            if (begun == 200) {
                return;
            }
            begun++;
            if (s.body() != null) {
                for (int i = 0; i < s.numbers()[0]; i++) {
                    perform(s.body());
                }
                continue;
            }
            State next = step(now, s.word(), s.numbers());
            if (next == null) {
                refused++;
            } else {
                now = next;
                done++;
            }
        }
    }

    // ---- the sky

    private static boolean any(State s) {
        return Arrays.stream(s.bubbles).anyMatch(b -> b != null);
    }

    private static int cost(int size) {
        int cost = 1;
        for (int i = 5; i <= size; i += 5) {
            cost++;
        }
        return cost;
    }

    /** What is there behind a STEP; null: it is REFUSED. */
    private State step(State from, String word, int[] a) {
        State s = from.copy();
        switch (word) {
            case "blow" -> {
                if (s.bubbles[a[0]] != null || s.money[a[0]] < cost(a[1])) {
                    return null;
                }
                s.money[a[0]] -= cost(a[1]);
                s.bubbles[a[0]] = new Bubble(a[1], s.stand[a[0]], 0);
                s.blown++;
            }
            case "east", "west" -> {
                if (!any(s)) {
                    return null;
                }
                for (int t = 0; t < s.bubbles.length; t++) {
                    Bubble b = s.bubbles[t];
                    if (b != null) {
                        int x = word.equals("east") ? b.x() + a[0] : b.x() - a[0];
                        s.bubbles[t] = in(x, 0, 99) ? new Bubble(b.size(), x, b.age()) : null;
                        s.burst += in(x, 0, 99) ? 0 : 1;
                    }
                }
            }
            case "run" -> {
                if (s.stand[a[0]] == a[1]) {
                    return null;
                }
                s.stand[a[0]] = a[1];
            }
            case "sell" -> {
                if (a[0] == a[1] || s.bubbles[a[0]] == null || s.bubbles[a[1]] != null || s.money[a[1]] < a[2]) {
                    return null;
                }
                s.bubbles[a[1]] = s.bubbles[a[0]];
                s.bubbles[a[0]] = null;
                s.money[a[1]] -= a[2];
                s.money[a[0]] += a[2];
            }
            case "keep" -> {
                Bubble b = s.bubbles[a[0]];
                if (b == null || b.age() == 0 || Math.abs(s.stand[a[0]] - b.x()) > b.size()) {
                    return null;
                }
                s.bubbles[a[0]] = new Bubble(b.size(), b.x(), 0);
            }
            default -> {
                return s.breath >= 400 ? null : breathed(s);
            }
        }
        return s;
    }

    private State breathed(State from) {
        State aged = from.copy();
        for (int t = 0; t < aged.bubbles.length; t++) {
            Bubble b = aged.bubbles[t];
            aged.bubbles[t] = b == null ? null : new Bubble(b.size(), b.x(), b.age() + 1);
        }
        State s = aged.copy();
        for (int t = 0; t < aged.bubbles.length; t++) {
            if (aged.bubbles[t] != null && aged.bubbles[t].age() >= life(aged, t)) {
                s.bubbles[t] = null;
                s.burst++;
            }
        }
        s.breath++;
        return s;
    }

    private State breathed(State from, int n) {
        State s = from;
        for (int i = 0; i < n; i++) {
            s = breathed(s);
        }
        return s;
    }

    private boolean sees(State s, int t, int v) {
        Bubble b = s.bubbles[t];
        return b != null && Math.abs(b.x() - views.get(v).x()) <= b.size();
    }

    private int owner(State s, int v) {
        for (int far = 0; far < 100; far++) {
            for (int t = 0; t < s.bubbles.length; t++) {
                if (sees(s, t, v) && Math.abs(s.bubbles[t].x() - views.get(v).x()) == far) {
                    return t;
                }
            }
        }
        return -1;
    }

    private int worth(State s, int t) {
        int sum = 0;
        for (int v = 0; v < views.size(); v++) {
            sum += owner(s, v) == t ? views.get(v).worth() : 0;
        }
        return sum;
    }

    private int worthHad(State s) {
        int sum = 0;
        for (int v = 0; v < views.size(); v++) {
            sum += owner(s, v) >= 0 ? views.get(v).worth() : 0;
        }
        return sum;
    }

    private static boolean touch(State s, int a, int b) {
        if (a == b || s.bubbles[a] == null || s.bubbles[b] == null) {
            return false;
        }
        return Math.abs(s.bubbles[a].x() - s.bubbles[b].x()) <= s.bubbles[a].size() + s.bubbles[b].size();
    }

    private static int touching(State s, int t) {
        int bits = 0;
        for (int u = 0; u < s.bubbles.length; u++) {
            bits += touch(s, t, u) ? 1 << u : 0;
        }
        return bits;
    }

    private static int holders(State s) {
        int bits = 0;
        for (int t = 0; t < s.bubbles.length; t++) {
            bits += s.bubbles[t] != null ? 1 << t : 0;
        }
        return bits;
    }

    private int life(State s, int t) {
        Bubble b = s.bubbles[t];
        return lifeBy(b.size(), soap, Integer.bitCount(touching(s, t)), b.x(), new int[] {worth(s, t), s.breath, s.blown, t});
    }

    private int lifeBy(int size, int bar, int walls, int place, int[] rest) {
        int value = law.applyAsInt(Map.of("size", size, "soap", bar, "walls", walls, "place", place,
                "worth", rest[0], "breath", rest[1], "blown", rest[2], "tenant", rest[3]));
        return value < 1 ? 1 : value > 60 ? 60 : value;
    }

    // ---- the face

    public int fault() {
        return faultPlace;
    }

    public int undo() {
        if (before.isEmpty()) {
            return -1;
        }
        now = before.remove(before.size() - 1);
        refused = 0;
        return before.size();
    }

    public int told(int what) {
        argument(in(what, 0, 11));
        int twos = 0;
        for (int t = 0; t < tenants(); t++) {
            for (int u = t + 1; u < tenants(); u++) {
                twos += touch(now, t, u) ? 1 : 0;
            }
        }
        return new int[] {views.size(), tenants(), soap, now.breath, holders(now), now.blown, now.burst,
            Arrays.stream(now.money).sum(), worthHad(now), book.size(), refused, twos}[what];
    }

    public int view(int view, int what) {
        element(in(view, 0, views.size() - 1));
        argument(in(what, 0, 3));
        int seen = 0;
        for (int t = 0; t < tenants(); t++) {
            seen += sees(now, t, view) ? 1 : 0;
        }
        return new int[] {views.get(view).x(), views.get(view).worth(), owner(now, view), seen}[what];
    }

    public int tenant(int tenant, int what) {
        element(in(tenant, 0, tenants() - 1));
        argument(in(what, 0, 5));
        int had = 0;
        for (int v = 0; v < views.size(); v++) {
            had += owner(now, v) == tenant ? 1 << v : 0;
        }
        return new int[] {now.money[tenant], now.stand[tenant], now.bubbles[tenant] == null ? 0 : 1, had,
            worth(now, tenant), touching(now, tenant)}[what];
    }

    public int bubble(int tenant, int what) {
        element(in(tenant, 0, tenants() - 1));
        argument(in(what, 0, 4));
        Bubble b = now.bubbles[tenant];
        if (b == null) {
            return -1;
        }
        int seen = 0;
        for (int v = 0; v < views.size(); v++) {
            seen += sees(now, tenant, v) ? 1 << v : 0;
        }
        return new int[] {b.size(), b.x(), b.age(), life(now, tenant), seen}[what];
    }

    public int would(int size, int bar, int walls, int place, int worth, int breath, int blown, int tenant) {
        argument(in(size, 1, 20) && in(bar, 1, 20) && in(walls, 0, 4) && in(place, 0, 99) && in(worth, 0, 480)
                && in(breath, 0, 400) && in(blown, 0, 999) && in(tenant, 0, 4));
        return lifeBy(size, bar, walls, place, new int[] {worth, breath, blown, tenant});
    }

    public int ahead(int n, int what) {
        argument(in(n, 0, 99) && in(what, 0, 2));
        State s = breathed(now, n);
        return new int[] {holders(s), worthHad(s), s.burst}[what];
    }

    public int wall(int tenant, int other, int half) {
        element(in(tenant, 0, tenants() - 1) && in(other, 0, tenants() - 1));
        argument(in(half, 0, 1));
        if (!touch(now, tenant, other)) {
            return -1;
        }
        int a = now.bubbles[tenant].size();
        int b = now.bubbles[other].size();
        int above = a == b ? 0 : a * b;
        int below = a == b ? 1 : Math.abs(a - b);
        for (int k = below; k > 1; k--) {
            if (above % k == 0 && below % k == 0) {
                above /= k;
                below /= k;
            }
        }
        return half == 0 ? above : below;
    }

    public int lasts(int tenant) {
        element(in(tenant, 0, tenants() - 1));
        if (now.bubbles[tenant] == null) {
            return -1;
        }
        for (int n = 1; n <= 99; n++) {
            if (breathed(now, n).bubbles[tenant] == null) {
                return n;
            }
        }
        return -1;
    }

    private int seenWorth(int size, int... places) {
        int sum = 0;
        for (View v : views) {
            sum += Arrays.stream(places).anyMatch(x -> Math.abs(x - v.x()) <= size) ? v.worth() : 0;
        }
        return sum;
    }

    public int pitch(int size, int what) {
        argument(in(size, 1, 20) && in(what, 0, 1));
        int best = 0;
        for (int x = 99; x >= 0; x--) {
            best = seenWorth(size, x) >= seenWorth(size, best) ? x : best;
        }
        return what == 0 ? best : seenWorth(size, best);
    }

    /** All sets of VIEWS that n places can see, place by place. */
    public int street(int size, int n) {
        argument(in(size, 1, 20) && in(n, 0, 8));
        Set<Integer> sets = new HashSet<>(Set.of(0));
        for (int i = 0; i < n; i++) {
            Set<Integer> more = new HashSet<>(sets);
            for (int x = 0; x < 100; x++) {
                int bits = 0;
                for (int v = 0; v < views.size(); v++) {
                    bits |= Math.abs(views.get(v).x() - x) <= size ? 1 << v : 0;
                }
                for (int set : sets) {
                    more.add(set | bits);
                }
            }
            sets = more;
        }
        int most = 0;
        for (int set : sets) {
            int sum = 0;
            for (int v = 0; v < views.size(); v++) {
                sum += (set >> v & 1) * views.get(v).worth();
            }
            most = Math.max(most, sum);
        }
        return most;
    }

    private boolean right(State s, Map<Integer, Integer> lines) {
        return lines.entrySet().stream().allMatch(e ->
                e.getValue() == 5 ? owner(s, e.getKey()) == -1 : owner(s, e.getKey()) == e.getValue());
    }

    private List<Integer> pairs(Map<Integer, Integer> lines) {
        List<Integer> list = new ArrayList<>();
        for (int t = 0; t < tenants(); t++) {
            for (int size = 1; size <= 20; size++) {
                State s = step(now, "blow", new int[] {t, size});
                if (right(s == null ? now : s, lines)) {
                    list.add(100 * t + size);
                }
            }
        }
        return list;
    }

    public int fits(int what) {
        argument(in(what, 0, 1));
        List<Integer> list = pairs(book);
        return what == 0 ? list.size() : list.isEmpty() ? -1 : list.get(0);
    }

    public int look(int what) {
        argument(in(what, 0, 1));
        int best = -1;
        int fewest = Integer.MAX_VALUE;
        for (int v = 0; v < views.size(); v++) {
            if (book.containsKey(v)) {
                continue;
            }
            int worst = 0;
            for (int owner = 0; owner <= 5; owner++) {
                Map<Integer, Integer> lines = new HashMap<>(book);
                lines.put(v, owner);
                worst = Math.max(worst, pairs(lines).size());
            }
            if (worst < fewest) {
                best = v;
                fewest = worst;
            }
        }
        return best == -1 ? -1 : what == 0 ? best : fewest;
    }

    private static long[] sumOfStands(int from, int n, int q) {
        java.math.BigInteger above = java.math.BigInteger.ZERO;
        java.math.BigInteger below = java.math.BigInteger.valueOf(16).pow(n);
        for (int i = from; i <= n; i++) {
            above = above.add(java.math.BigInteger.valueOf(16 - q).pow(i).multiply(java.math.BigInteger.valueOf(16).pow(n - i)));
        }
        java.math.BigInteger g = above.gcd(below);
        return new long[] {above.divide(g).longValueExact(), below.divide(g).longValueExact()};
    }

    public long stands(int n, int q, int half) {
        argument(in(n, 0, 12) && in(q, 0, 16) && in(half, 0, 1));
        return sumOfStands(n, n, q)[half];
    }

    public long mean(int n, int q, int half) {
        argument(in(n, 0, 12) && in(q, 0, 16) && in(half, 0, 1));
        return sumOfStands(1, n, q)[half];
    }

    public int sure(int n) {
        argument(in(n, 0, 999));
        int[] take = new int[n + 1];
        for (int left = 0; left <= n; left++) {
            take[left] = -1;
            for (int k : new int[] {4, 3, 1}) {
                if (k <= left && take[left - k] == -1) {
                    take[left] = k;
                }
            }
        }
        return take[n];
    }

    public int pay(int v, int w, int what) {
        argument(in(v, 0, 99) && in(w, 0, 99) && in(what, 0, 2));
        int[][] has = {{v - w, v - 2 * w}, {v, 0}};
        List<int[]> rests = new ArrayList<>();
        for (int a = 0; a < 2; a++) {
            for (int b = 0; b < 2; b++) {
                if (has[1 - a][b] <= has[a][b] && has[1 - b][a] <= has[b][a]) {
                    rests.add(new int[] {10 * a + b, has[a][b] + has[b][a]});
                }
            }
        }
        if (what == 0) {
            return rests.size();
        }
        return rests.isEmpty() ? (what == 1 ? -1 : 0) : rests.get(0)[what - 1];
    }

    public int sun(int tenant, int among, int n) {
        element(in(tenant, 0, tenants() - 1));
        argument((among >> tenants()) == 0 && in(n, 0, 999));
        if ((among >> tenant & 1) == 0) {
            return 0;
        }
        int gets = 0;
        for (int bound = 0; bound <= 480; bound++) {
            int given = 0;
            for (int t = 0; t < tenants(); t++) {
                given += (among >> t & 1) == 1 ? Math.min(bound, worth(now, t)) : 0;
            }
            gets = given <= n ? Math.min(bound, worth(now, tenant)) : gets;
        }
        return gets;
    }

    public int richest(int what) {
        argument(in(what, 0, 1));
        int best = -1;
        for (int t = tenants() - 1; t >= 0; t--) {
            if (now.bubbles[t] != null && (best == -1 || worth(now, t) >= worth(now, best))) {
                best = t;
            }
        }
        return what == 0 || best == -1 ? best : worth(now, best);
    }

    private boolean seen(int v) {
        for (int t = 0; t < tenants(); t++) {
            if (sees(now, t, v)) {
                return true;
            }
        }
        return false;
    }

    public int idle() {
        int bits = 0;
        for (int v = 0; v < views.size(); v++) {
            bits += seen(v) ? 0 : 1 << v;
        }
        return bits;
    }

    public int under() {
        int bits = 0;
        for (int t = 0; t < tenants(); t++) {
            bits += step(now, "keep", new int[] {t}) == null ? 0 : 1 << t;
        }
        return bits;
    }

    public int offer(int tenant, int size) {
        element(in(tenant, 0, tenants() - 1));
        argument(in(size, 1, 20));
        if (now.bubbles[tenant] != null) {
            return -1;
        }
        State s = now.copy();
        s.money[tenant] = 99;
        return worth(step(s, "blow", new int[] {tenant, size}), tenant);
    }

    public int lost(int n, int what) {
        argument(in(n, 1, 20) && in(what, 0, 1));
        State s = step(now, what == 0 ? "east" : "west", new int[] {n});
        return s == null ? 0 : holders(now) & ~holders(s);
    }

    public int terrace(int tenant) {
        element(in(tenant, 0, tenants() - 1));
        if (now.bubbles[tenant] == null) {
            return 0;
        }
        Set<Integer> found = new HashSet<>();
        List<Integer> queue = new ArrayList<>(List.of(tenant));
        while (!queue.isEmpty()) {
            int t = queue.remove(0);
            if (found.add(t)) {
                for (int u = 0; u < tenants(); u++) {
                    if (touch(now, t, u)) {
                        queue.add(u);
                    }
                }
            }
        }
        return found.stream().mapToInt(t -> 1 << t).sum();
    }

    public int overlap(int tenant, int other) {
        element(in(tenant, 0, tenants() - 1) && in(other, 0, tenants() - 1));
        Bubble a = now.bubbles[tenant];
        Bubble b = now.bubbles[other];
        if (tenant == other || a == null || b == null) {
            return Integer.MIN_VALUE;
        }
        return a.size() + b.size() - Math.abs(a.x() - b.x());
    }

    public int vacant(int what) {
        argument(in(what, 0, 1));
        for (int worth = 60; worth >= 0; worth--) {
            for (int v = 0; v < views.size(); v++) {
                if (views.get(v).worth() == worth && !seen(v)) {
                    return what == 0 ? v : worth;
                }
            }
        }
        return -1;
    }

    public int needs(int tenant, int view) {
        element(in(tenant, 0, tenants() - 1) && in(view, 0, views.size() - 1));
        for (int size = 1; size <= 20; size++) {
            if (Math.abs(now.stand[tenant] - views.get(view).x()) <= size) {
                return size;
            }
        }
        return -1;
    }

    public int buyers(int tenant, int n) {
        element(in(tenant, 0, tenants() - 1));
        argument(in(n, 0, 99));
        int bits = 0;
        for (int t = 0; t < tenants(); t++) {
            bits += step(now, "sell", new int[] {tenant, t, n}) == null ? 0 : 1 << t;
        }
        return bits;
    }

    public int affords(int tenant) {
        element(in(tenant, 0, tenants() - 1));
        if (now.bubbles[tenant] != null) {
            return -1;
        }
        int size = 20;
        while (size > 0 && cost(size) > now.money[tenant]) {
            size--;
        }
        return size;
    }

    public int front(int from, int to, int what) {
        argument(in(from, 0, 99) && in(to, 0, 99) && in(what, 0, 1));
        int sum = 0;
        for (int v = 0; v < views.size(); v++) {
            if (in(views.get(v).x(), from, to) && (owner(now, v) == -1) == (what == 1)) {
                sum += views.get(v).worth();
            }
        }
        return sum;
    }

    public int closest(int view, int what) {
        element(in(view, 0, views.size() - 1));
        argument(in(what, 0, 1));
        for (int far = 0; far < 100; far++) {
            for (int t = 0; t < tenants(); t++) {
                if (now.bubbles[t] != null && Math.abs(now.bubbles[t].x() - views.get(view).x()) == far) {
                    return what == 0 ? t : far;
                }
            }
        }
        return -1;
    }

    private int draw(int by) {
        seed = (int) ((long) seed * 1103515245L + 12345L);
        return (int) (((seed & 0xffffffffL) >> 16) % 32768 % by);
    }

    private State played(int start, int q, int breaths) {
        seed = start;
        State s = now;
        for (int i = 0; i < breaths; i++) {
            if (tenants() > 0) {
                int t = draw(tenants());
                int size = draw(20) + 1;
                State blown = step(s, "blow", new int[] {t, size});
                s = blown == null ? s : blown;
                String wind = draw(16) < q ? "east" : "west";
                State moved = step(s, wind, new int[] {draw(20) + 1});
                s = moved == null ? s : moved;
            }
            s = breathed(s);
        }
        return s;
    }

    public int afternoon(int start, int q, int breaths, int what) {
        argument(in(q, 0, 16) && in(breaths, 1, 48) && in(what, 0, 3));
        State s = played(start, q, breaths);
        return new int[] {holders(s), s.blown - now.blown, s.burst - now.burst, worthHad(s)}[what];
    }

    public int span(int start, int many, int q, int breaths, int what, int tenant) {
        argument(in(many, 1, 10) && in(q, 0, 16) && in(breaths, 1, 48) && in(what, 0, 2) && in(tenant, 0, tenants() - 1));
        List<Integer> bursts = new ArrayList<>();
        int having = 0;
        for (int i = 0; i < many; i++) {
            State s = played(start + i, q, breaths);
            bursts.add(s.burst - now.burst);
            having += s.bubbles[tenant] != null ? 1 : 0;
        }
        bursts.sort(null);
        return new int[] {bursts.get(0), bursts.get(many - 1), having}[what];
    }

    public int image() {
        if (images.size() == 3) {
            return -1;
        }
        List<State> kept = new ArrayList<>();
        for (State s : before) {
            kept.add(s.copy());
        }
        images.add(new Image(now.copy(), kept));
        return images.size();
    }

    public int restore() {
        if (images.isEmpty()) {
            return -1;
        }
        Image latest = images.remove(images.size() - 1);
        now = latest.now();
        before = new ArrayList<>(latest.before());
        refused = 0;
        return images.size();
    }

    public int status(int what) {
        return what == 0 ? noSuch : what == 1 ? wrong : -1;
    }

    public int count(int what) {
        return what == 0 ? images.size() : what == 1 ? tape.size() : what == 2 ? before.size() : -1;
    }
}
