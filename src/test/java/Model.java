import java.util.ArrayList;
import java.util.Arrays;
import java.util.HashMap;
import java.util.List;
import java.util.Map;

/**
 * The document once more, written down plainly and slowly with the whole library, in other ways than MilkHills is:
 * RandomRuns holds the two against each other.
 */
final class Model {
    private static final int LOW = -1000000000;
    private static final int[] ABOVE = {-1, 0, 0, 0, 1, 2, 3};

    private static final Map<String, int[]> WARM = new HashMap<>();

    static final class Refusal extends Exception {
        private static final long serialVersionUID = 1;
        final int k;

        Refusal(int k) {
            super(null, null, false, false);
            this.k = k;
        }
    }

    static final class One {
        int kind, m, at, how, left, sour, shaken;
        int carrier = -1;
        boolean given;

        One copy() {
            One o = new One();
            o.kind = kind;
            o.m = m;
            o.at = at;
            o.how = how;
            o.left = left;
            o.sour = sour;
            o.shaken = shaken;
            o.carrier = carrier;
            o.given = given;
            return o;
        }

        int warms(int v) {
            switch (kind) {
                case 1: case 4: return v + m / 3;
                case 2: return v / 2;
                case 5: return v / 2 >= 1 ? v / 2 - 1 : 0;
                case 6: return v + 2;
                default: return v;
            }
        }

        int jolts(int v) {
            switch (kind) {
                case 3: return v + v;
                case 4: return v >= 2 ? v - 2 : 0;
                case 6: return v + v + m;
                default: return v;
            }
        }

        int turns() {
            return new int[] {100, 80, 100, 100, 80 + 5 * m, 120, 100}[kind];
        }

        int state() {
            return given ? 3 : sour >= turns() ? 2 : shaken >= 60 ? 1 : 0;
        }
    }

    static final class All {
        int[] heat = {8, 8, 8, 8, 8, 8, 8, 8, 8};
        int[] room = new int[9];
        int[] price = {10, 10, 10, 10, 10, 10, 10, 10, 10};
        int[] pace = {1, 2, 3, 4};
        int[] shake = {9, 7, 5, 3};
        List<One> churns = new ArrayList<>();
        int quarter, takings;
        int z = 1;
        String tape = "";
        String[] texts = {"t/4", "(s=0)*50+(s=1)*30"};
        List<Integer> waiting = new ArrayList<>();

        All copy() {
            All o = new All();
            o.heat = heat.clone();
            o.room = room.clone();
            o.price = price.clone();
            o.pace = pace.clone();
            o.shake = shake.clone();
            for (One c : churns) {
                o.churns.add(c.copy());
            }
            o.quarter = quarter;
            o.takings = takings;
            o.z = z;
            o.tape = tape;
            o.texts = texts.clone();
            o.waiting = new ArrayList<>(waiting);
            return o;
        }

        /** As law() of USE 0; what has been asked of a TEXT is kept, as relays ask it so often. */
        int warm(int heat, int q) {
            int[] row = WARM.computeIfAbsent(texts[0], k -> new int[41 * 96]);
            if (row[96 * heat + q] == 0) {
                row[96 * heat + q] = 1 + law(0, heat, q, 0);
            }
            return row[96 * heat + q] - 1;
        }

        int law(int use, int a, int b, int c) {
            int v = Texts.value(texts[use], use == 0 ? "tq" : "srm", new int[] {a, b, c});
            return Math.max(0, Math.min(use == 0 ? 40 : 999, v));
        }

        void passOne(One c) {
            if (c.given || c.how == 3 || c.how == 1) {
                return;
            }
            c.sour = Math.min(9999, c.sour + c.warms(warm(heat[c.at], quarter % 96)));
            if (c.how == 2) {
                c.shaken = Math.min(9999, c.shaken + c.jolts(shake[c.carrier]));
                c.left--;
                if (c.left == 0) {
                    c.at++;
                    c.carrier = -1;
                    c.how = 0;
                    if (c.at == 9) {
                        c.how = 3;
                        takings = Math.min(99999, takings + law(1, c.state(), c.sour, c.m));
                    }
                }
            }
        }

        void pass() {
            for (One c : churns) {
                passOne(c);
            }
            quarter++;
        }

        int thunder() {
            int n = 0;
            for (One c : churns) {
                if (!c.given && c.how != 3) {
                    c.sour = Math.min(9999, c.sour + 30);
                    n++;
                }
            }
            return n;
        }
    }

    All now = new All();
    All kept;
    int images;
    final int[] told = new int[6];
    List<Integer> trace = new ArrayList<>();
    final long[][] sheets = new long[4][];
    final int[] bits = new int[4];

    private static void ask(boolean good, int k) throws Refusal {
        if (!good) {
            throw new Refusal(k);
        }
    }

    private One one(int churn) throws Refusal {
        ask(churn >= 0 && churn < now.churns.size(), 1);
        return now.churns.get(churn);
    }

    /** The answer to a call, by its name. */
    long call(String name, long[] a) {
        try {
            return answer(name, a);
        } catch (Refusal r) {
            told[r.k]++;
            return LOW - r.k;
        }
    }

    private long answer(String name, long[] a) throws Refusal {
        int[] i = new int[a.length];
        for (int k = 0; k < a.length; k++) {
            i[k] = (int) a[k];
        }
        switch (name) {
            case "hill": return hill(i[0], i[1], i[2]);
            case "ofHill": return ofHill(i[0], i[1]);
            case "carrier": return carrier(i[0], i[1], i[2]);
            case "churn": return churn(i[0]);
            case "ofChurn": return ofChurn(i[0], i[1]);
            case "become": return become(i[0], i[1]);
            case "as": return as(i[0], i[1]);
            case "go": return go(i[0], i[1]);
            case "brook": return brook(i[0]);
            case "rest": return rest(i[0]);
            case "giveUp": return giveUp(i[0]);
            case "refill": return refill(i[0]);
            case "feed": return feed(a[0], i[1]);
            case "text": return text(i[0]);
            case "law": ask(i[0] == 0 || i[0] == 1, 1); return now.law(i[0], i[1], i[2], i[3]);
            case "quarters": return quarters(i[0]);
            case "days": return days(i[0]);
            case "thunder": return now.thunder();
            case "then": return then(i[0], i[1], i[2]);
            case "relays": return relays(i[0], i[1], i[2]);
            case "turnsAt": return turnsAt(i[0], i[1]);
            case "bestGiven": return bestGiven(i[0], i[1], i[2]);
            case "cellar": return cellar(i[0], i[1], i[2]);
            case "odds": return odds(i[0], i[1], i[2]);
            case "byWhom": return byWhom(i[0], i[1], i[2]);
            case "seed": int was = now.z; now.z = i[0]; return was;
            case "voice": return voice(i[0], i[1], i[2]);
            case "trace": ask(i[0] >= 0 && i[0] < trace.size(), 2); return trace.get(i[0]);
            case "sheet": return sheet(i[0], i[1], i[2]);
            case "put": return put(i[0], i[1], i[2]);
            case "move": return move(i[0], i[1], i[2], i[3], i[4]);
            case "heats": return heats(i[0]);
            case "judge": return judge(i[0]);
            case "image": kept = now.copy(); return ++images;
            case "restore": ask(kept != null, 2); now = kept.copy(); return now.quarter;
            case "tell": ask(now.waiting.size() < 20, 4); now.waiting.add(i[0]); return now.waiting.size();
            case "check": return check();
            case "count": return count(i[0]);
            case "told": ask(i[0] >= 1 && i[0] <= 5, 1); return told[i[0]];
            default: throw new IllegalArgumentException(name);
        }
    }

    private int inBrook(int hill) {
        return (int) now.churns.stream().filter(c -> c.how == 1 && c.at == hill).count();
    }

    private int hill(int hill, int what, int v) throws Refusal {
        ask(hill >= 0 && hill <= 8 && what >= 0 && what <= 2, 1);
        ask(v >= 0 && v <= new int[] {40, 3, 99}[what], 1);
        ask(what != 1 || v >= inBrook(hill), 3);
        int[] row = new int[][] {now.heat, now.room, now.price}[what];
        int was = row[hill];
        row[hill] = v;
        return was;
    }

    private int ofHill(int hill, int what) throws Refusal {
        ask(hill >= 0 && hill <= 8 && what >= 0 && what <= 4, 1);
        return new int[] {now.heat[hill], now.room[hill], now.price[hill], inBrook(hill),
            now.law(0, now.heat[hill], now.quarter % 96, 0)}[what];
    }

    private int carrier(int carrier, int pace, int shake) throws Refusal {
        ask(carrier >= 0 && carrier <= 3 && pace >= 1 && pace <= 9 && shake >= 0 && shake <= 20, 1);
        int was = now.pace[carrier];
        now.pace[carrier] = pace;
        now.shake[carrier] = shake;
        return was * 10;
    }

    private int churn(int km) throws Refusal {
        ask(km >= 0 && km <= 69, 1);
        ask(now.churns.size() < 6, 4);
        One c = new One();
        c.kind = km / 10;
        c.m = km % 10;
        now.churns.add(c);
        return now.churns.size() - 1;
    }

    private static int of(One c, int what) {
        return new int[] {c.kind, c.m, c.at, c.how, c.left, c.sour, c.shaken, c.state(), c.turns(), c.carrier}[what];
    }

    private int ofChurn(int churn, int what) throws Refusal {
        One c = one(churn);
        ask(what >= 0 && what <= 9, 1);
        return of(c, what);
    }

    private int become(int churn, int km) throws Refusal {
        One c = one(churn);
        ask(km >= 0 && km <= 69, 1);
        int was = c.kind;
        c.kind = km / 10;
        c.m = km % 10;
        return was;
    }

    private int as(int churn, int kind) throws Refusal {
        One c = one(churn);
        ask(kind >= 0 && kind <= 6, 1);
        for (int k = c.kind; k >= 0; k = ABOVE[k]) {
            if (k == kind) {
                return c.m;
            }
        }
        throw new Refusal(5);
    }

    private int go(int churn, int carrier) throws Refusal {
        One c = one(churn);
        ask(carrier >= 0 && carrier <= 3, 1);
        ask(c.how < 2 && !c.given, 3);
        c.how = 2;
        c.carrier = carrier;
        c.left = now.pace[carrier];
        return c.left;
    }

    private int brook(int churn) throws Refusal {
        One c = one(churn);
        ask(c.how == 0 && !c.given, 3);
        ask(inBrook(c.at) < now.room[c.at], 4);
        c.how = 1;
        return inBrook(c.at);
    }

    private int rest(int churn) throws Refusal {
        One c = one(churn);
        ask(c.how == 1, 3);
        c.how = 0;
        return inBrook(c.at);
    }

    private int cheese(One c) {
        return c.sour >= 100 ? 0 : now.price[c.at] * (100 - c.sour) / 10;
    }

    private int giveUp(int churn) throws Refusal {
        One c = one(churn);
        ask(c.how < 2 && !c.given, 3);
        c.how = 0;
        c.given = true;
        now.takings = Math.min(99999, now.takings + cheese(c));
        return cheese(c);
    }

    private int refill(int churn) throws Refusal {
        One c = one(churn);
        One fresh = new One();
        fresh.kind = c.kind;
        fresh.m = c.m;
        now.churns.set(churn, fresh);
        return c.how;
    }

    private int feed(long word, int n) throws Refusal {
        ask(n >= 1 && n <= 8, 1);
        ask(now.tape.length() + n <= 50, 4);
        for (int i = 0; i < n; i++) {
            now.tape += (char) (word >> 8 * i & 255);
        }
        return now.tape.length();
    }

    private int text(int use) throws Refusal {
        ask(use == 0 || use == 1, 1);
        String tape = now.tape;
        now.tape = "";
        int fault = Texts.fault(tape, use == 0 ? "tq" : "srm");
        if (fault >= 0) {
            return -10 - fault;
        }
        now.texts[use] = tape;
        return 1;
    }

    private int quarters(int n) throws Refusal {
        ask(n >= 1 && n <= 300, 1);
        ask(now.quarter + n <= 9999, 3);
        for (int i = 0; i < n; i++) {
            now.pass();
        }
        return now.takings;
    }

    private int days(int n) throws Refusal {
        ask(n >= 1 && n <= 20, 1);
        ask(now.quarter + 16 * n <= 9999, 3);
        for (int i = 0; i < 16 * n; i++) {
            now.z = now.z * 1103515245 + 12345;
            if ((now.z >>> 8) % 16 == 0) {
                now.thunder();
            }
            now.pass();
        }
        return now.takings;
    }

    private int then(int n, int churn, int what) throws Refusal {
        ask(n >= 0 && n <= 300, 1);
        one(churn);
        ask(what >= 2 && what <= 7, 1);
        All would = now.copy();
        for (int i = 0; i < n; i++) {
            would.pass();
        }
        return of(would.churns.get(churn), what);
    }

    /** The least SOUR and, behind a colon, the first ways (wait and carrier a HILL) to it; null: there are none. */
    private static String leastRelays(All w, One start, int n) {
        Map<Integer, String> here = new HashMap<>();
        here.put(start.shaken, four(start.sour));
        for (int hill = start.at; hill <= 8; hill++) {
            Map<Integer, String> next = new HashMap<>();
            for (Map.Entry<Integer, String> e : here.entrySet()) {
                int sour = Integer.parseInt(e.getValue().substring(0, 4));
                step(w, start, hill, n, e.getKey(), sour, e.getValue().substring(5), next);
            }
            here = next;
        }
        String best = null;
        for (String s : here.values()) {
            if (best == null || s.compareTo(best) < 0) {
                best = s;
            }
        }
        return best;
    }

    private static void step(All w, One start, int hill, int n, int key, int sour, String ways,
            Map<Integer, String> next) {
        All would = new All();
        would.heat = w.heat;
        would.texts = w.texts;
        would.pace = w.pace;
        would.shake = w.shake;
        for (int wait = 0; wait <= 2; wait++) {
            for (int carrier = 0; carrier < 4; carrier++) {
                would.quarter = w.quarter + key / 10000;
                One c = start.copy();
                c.sour = sour;
                c.shaken = key % 10000;
                c.at = hill;
                c.how = w.room[hill] >= 1 ? 1 : 0;
                boolean sweet = c.state() == 0;
                for (int i = 0; i < wait + w.pace[carrier]; i++) {
                    if (i == wait) {
                        c.how = 2;
                        c.carrier = carrier;
                        c.left = w.pace[carrier];
                    }
                    would.passOne(c);
                    would.quarter++;
                    sweet &= c.state() == 0;
                }
                int gone = would.quarter - w.quarter;
                if (sweet && gone <= n) {
                    next.merge(gone * 10000 + c.shaken, four(c.sour) + ways + wait + carrier,
                        (x, y) -> x.compareTo(y) < 0 ? x : y);
                }
            }
        }
    }

    private static String four(int sour) {
        return Integer.toString(10000 + sour).substring(1) + ":";
    }

    private int relays(int churn, int n, int what) throws Refusal {
        One c = one(churn);
        ask(n >= 0 && n <= 60 && what >= -1 && what <= 8, 1);
        ask(c.how < 2 && c.state() == 0, 3);
        String best = leastRelays(now, c, n);
        ask(best != null && (what < 0 || what >= c.at), 2);
        if (what < 0) {
            return Integer.parseInt(best.substring(0, 4));
        }
        int place = 5 + 2 * (what - c.at);
        return Integer.parseInt(best.substring(place, place + 2));
    }

    /** All that it is behind each QUARTER, straight by a carrier; first the one that it is now. */
    private static List<One> straight(All w, One start, int carrier, int quarter) {
        All would = w.copy();
        would.churns.clear();
        One c = start.copy();
        would.churns.add(c);
        would.quarter = quarter;
        List<One> all = new ArrayList<>();
        all.add(c.copy());
        while (c.how != 3) {
            if (c.how != 2) {
                c.how = 2;
                c.carrier = carrier;
                c.left = w.pace[carrier];
            }
            would.pass();
            all.add(c.copy());
        }
        return all;
    }

    private int turnsAt(int churn, int carrier) throws Refusal {
        One c = one(churn);
        ask(carrier >= 0 && carrier <= 3, 1);
        ask(c.how < 2 && c.state() == 0, 3);
        for (One o : straight(now, c, carrier, now.quarter)) {
            if (o.state() != 0) {
                return o.how == 2 ? o.at : o.at - 1;
            }
        }
        return -1;
    }

    private int bestGiven(int churn, int carrier, int what) throws Refusal {
        One c = one(churn);
        ask(carrier >= 0 && carrier <= 3 && (what == 0 || what == 1), 1);
        ask(c.how < 2 && !c.given, 3);
        int where = -1;
        int most = -1;
        for (One o : straight(now, c, carrier, now.quarter)) {
            if (o.how == 2) {
                continue;
            }
            int brings = o.how == 3 ? now.law(1, o.state(), o.sour, o.m) : cheese(o);
            if (brings > most) {
                most = brings;
                where = o.at;
            }
        }
        return what == 0 ? where : most;
    }

    private int cellar(int churn, int n, int what) throws Refusal {
        One c = one(churn);
        ask(n >= 0 && n <= 60 && (what == 0 || what == 1), 1);
        ask(c.how < 2 && c.state() == 0, 3);
        int where = -1;
        int least = 0;
        for (int hill = 0; hill <= 8; hill++) {
            All would = now.copy();
            would.heat[hill] = 0;
            String best = leastRelays(would, c, n);
            if (best != null && (where < 0 || Integer.parseInt(best.substring(0, 4)) < least)) {
                where = hill;
                least = Integer.parseInt(best.substring(0, 4));
            }
        }
        ask(where >= 0, 2);
        return what == 0 ? where : least;
    }

    private long odds(int p, int n, int part) throws Refusal {
        ask(p >= 0 && p <= 16 && n >= 0 && n <= 12 && (part == 0 || part == 1), 1);
        java.math.BigInteger above = java.math.BigInteger.valueOf(16 - p).pow(n);
        java.math.BigInteger below = java.math.BigInteger.valueOf(16).pow(n);
        java.math.BigInteger both = above.gcd(below);
        return (part == 0 ? above : below).divide(both).longValueExact();
    }

    private int byWhom(int churn, int quarter, int sour) throws Refusal {
        One c = one(churn);
        ask(quarter >= 0 && quarter <= 9999, 1);
        One fresh = new One();
        fresh.kind = c.kind;
        fresh.m = c.m;
        int by = 0;
        for (int carrier = 0; carrier < 4; carrier++) {
            List<One> all = straight(now, fresh, carrier, quarter);
            if (all.get(all.size() - 1).sour == sour) {
                by += 1 << carrier;
            }
        }
        return by;
    }

    private int voice(int churn, int act, int x) throws Refusal {
        One c = one(churn);
        ask(act >= 0 && act <= 3, 1);
        List<Integer> begun = new ArrayList<>();
        int v = say(c, churn, act, c.kind, x, begun);
        trace = begun.subList(0, Math.min(40, begun.size()));
        return v;
    }

    /** A body by its act, the first from a kind upwards. */
    private static int say(One c, int n, int act, int from, int x, List<Integer> begun) {
        int kind = from;
        while (!has(kind, act)) {
            kind = ABOVE[kind];
        }
        int k = c.kind;
        int up = ABOVE[kind];
        switch (10 * kind + act) {
            case 0: begun.add(10); return x + n;
            case 1: begun.add(11); return say(c, n, 0, k, x, begun) * 2;
            case 2: begun.add(12); return x - c.m;
            case 3: begun.add(13); return say(c, n, 1, k, x, begun) ^ say(c, n, 2, k, x, begun);
            case 11: begun.add(20); return say(c, n, 1, up, x, begun) - say(c, n, 2, k, 1, begun);
            case 20: begun.add(30); return say(c, n, 0, up, x, begun) * 3;
            case 32: begun.add(40); return -say(c, n, 2, up, x, begun);
            case 41: begun.add(50); return say(c, n, 1, up, x + 1, begun);
            case 53: begun.add(60); return say(c, n, 3, up, x, begun) - say(c, n, 0, k, 2, begun);
            case 62: begun.add(70); return say(c, n, 2, up, x, begun) ^ n;
            case 63: begun.add(71); return say(c, n, 1, k, x, begun) - say(c, n, 3, up, x, begun);
            default: throw new IllegalStateException();
        }
    }

    private static boolean has(int kind, int act) {
        return kind == 0 || Arrays.asList(11, 20, 32, 41, 53, 62, 63).contains(10 * kind + act);
    }

    private int sheet(int sheet, int b, int n) throws Refusal {
        ask(sheet >= 0 && sheet <= 3 && Arrays.asList(0, 8, 16, 32).contains(b), 1);
        if (b == 0) {
            sheets[sheet] = null;
            return 1;
        }
        ask(n >= 0, 3);
        ask(n <= 40, 1);
        sheets[sheet] = new long[n];
        bits[sheet] = b;
        return 1;
    }

    private long[] row(int sheet) throws Refusal {
        ask(sheets[sheet] != null, 2);
        return sheets[sheet];
    }

    private int put(int sheet, int i, int v) throws Refusal {
        ask(sheet >= 0 && sheet <= 3, 1);
        long[] row = row(sheet);
        ask(i >= 0 && i < row.length, 1);
        row[i] = Math.floorMod((long) v, 1L << bits[sheet]);
        return 1;
    }

    private int move(int sheet, int i, int other, int j, int n) throws Refusal {
        ask(sheet >= 0 && sheet <= 3 && other >= 0 && other <= 3, 1);
        long[] a = row(sheet);
        long[] b = row(other);
        ask(bits[sheet] == bits[other], 5);
        ask(n >= 0 && i >= 0 && j >= 0 && (long) i + n <= a.length && (long) j + n <= b.length, 1);
        long[] were = a.clone();
        for (int k = 0; k < n; k++) {
            b[j + k] = were[i + k];
        }
        return n;
    }

    private int heats(int sheet) throws Refusal {
        ask(sheet >= 0 && sheet <= 3, 1);
        int i = 0;
        for (long v : row(sheet)) {
            if (v > 40 || i == 9) {
                break;
            }
            now.heat[i++] = (int) v;
        }
        return i;
    }

    private int judge(int sheet) throws Refusal {
        ask(sheet >= 0 && sheet <= 3, 1);
        List<Long> are = new ArrayList<>();
        for (One c : now.churns) {
            are.add((long) c.state());
        }
        long[] row = row(sheet);
        for (int i = 0; i < 41; i++) {
            Long told = i < row.length ? row[i] : null;
            Long is = i < are.size() ? are.get(i) : null;
            if (told == null ? is != null : !told.equals(is)) {
                return i;
            }
        }
        return -1;
    }

    private int check() {
        List<Integer> told = now.waiting;
        now.waiting = new ArrayList<>();
        All would = now.copy();
        for (int i = 0; i < told.size(); i++) {
            would.pass();
            if (would.churns.stream().mapToInt(c -> c.sour).sum() != told.get(i)) {
                return 1 + i;
            }
        }
        return 0;
    }

    private int count(int what) throws Refusal {
        ask(what >= 0 && what <= 9, 1);
        int[] how = new int[4];
        int sweet = 0;
        for (One c : now.churns) {
            how[c.how]++;
            sweet += c.state() == 0 ? 1 : 0;
        }
        return new int[] {now.churns.size(), now.quarter, now.takings, how[3], how[2], sweet, now.tape.length(),
            now.waiting.size(), trace.size(), now.z}[what];
    }
}
