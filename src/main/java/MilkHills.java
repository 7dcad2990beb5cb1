import java.util.Arrays;

/** Milk over nine hills. What each call answers and changes is told in the document, promise by promise. */
public final class MilkHills {
    private static final int LOW = -1000000000;
    private static final int BEYOND = 1;
    private static final int NONE = 2;
    private static final int STATE = 3;
    private static final int FULL = 4;
    private static final int KIND = 5;

    private static final int HILLS = 9;
    private static final int TOWN = 9;
    private static final int CARRIERS = 4;
    private static final int CHURNS = 6;
    private static final int KINDS = 7;
    private static final int LAST_QUARTER = 9999;
    private static final int DAY = 96;
    private static final int DRAWN_DAY = 16;
    private static final int TAPE = 50;
    private static final int OPEN = 5;
    private static final int WAITING = 20;
    private static final int TRACED = 40;
    private static final int SHEETS = 4;
    private static final int SHEET_LENGTH = 40;

    private static final int RESTS = 0;
    private static final int IN_BROOK = 1;
    private static final int ON_WAY = 2;
    private static final int IN_TOWN = 3;

    private static final int SWEET = 0;
    private static final int BUTTER = 1;
    private static final int WHEY = 2;
    private static final int CHEESE = 3;

    private final World now;
    private final World kept;
    private int images;
    private final Kind[] kinds = {
        new Kind(0), new Goats(1), new Lidded(2), new Creamed(3), new Running(4), new Sealed(5), new Old(6)
    };
    /** What would be is tried on these, so that no call of its own makes churns. */
    private final Churn[] tried = new Churn[CHURNS];
    private final Relays planner = new Relays();
    /** The count of bodies, and then their numbers. */
    private final int[] traced = new int[1 + TRACED];
    private final int[][] sheetNumbers = new int[SHEETS][SHEET_LENGTH];
    private final int[] sheetBits = new int[SHEETS];
    private final int[] sheetLengths = new int[SHEETS];
    private final int[] errors = new int[KIND + 1];

    public MilkHills() {
        now = new World(kinds[0]);
        kept = new World(kinds[0]);
        for (int i = 0; i < CHURNS; i++) {
            tried[i] = new Churn(i, kinds[0]);
        }
    }

    // ---- hills, carriers, churns

    public int hill(int hill, int what, int v) {
        if (!within(hill, 0, HILLS - 1) || !within(what, 0, 2) || !within(v, 0, mostOfHill(what))) {
            return refuse(BEYOND);
        }
        if (what == 1 && v < now.inBrook(hill)) {
            return refuse(STATE);
        }
        int[] row = what == 0 ? now.heats : what == 1 ? now.rooms : now.prices;
        int was = row[hill];
        row[hill] = v;
        return was;
    }

    public int ofHill(int hill, int what) {
        if (!within(hill, 0, HILLS - 1)) {
            return refuse(BEYOND);
        }
        switch (what) {
            case 0: return now.heats[hill];
            case 1: return now.rooms[hill];
            case 2: return now.prices[hill];
            case 3: return now.inBrook(hill);
            case 4: return now.warm(hill, now.quarter);
            default: return refuse(BEYOND);
        }
    }

    public int carrier(int carrier, int pace, int shake) {
        if (!isCarrier(carrier) || !within(pace, 1, 9) || !within(shake, 0, 20)) {
            return refuse(BEYOND);
        }
        int was = now.paces[carrier];
        now.paces[carrier] = pace;
        now.shakes[carrier] = shake;
        return 10 * was;
    }

    public int churn(int km) {
        if (!within(km, 0, 10 * KINDS - 1)) {
            return refuse(BEYOND);
        }
        if (now.many >= CHURNS) {
            return refuse(FULL);
        }
        int churn = now.many;
        now.many++;
        now.churns[churn].kind = kinds[km / 10];
        now.churns[churn].m = km % 10;
        now.churns[churn].renew();
        return churn;
    }

    public int ofChurn(int churn, int what) {
        if (!isChurn(churn) || !within(what, 0, 9)) {
            return refuse(BEYOND);
        }
        return now.churns[churn].answer(what);
    }

    public int become(int churn, int km) {
        if (!isChurn(churn) || !within(km, 0, 10 * KINDS - 1)) {
            return refuse(BEYOND);
        }
        Churn c = now.churns[churn];
        int was = c.kind.number;
        c.kind = kinds[km / 10];
        c.m = km % 10;
        return was;
    }

    public int as(int churn, int kind) {
        if (!isChurn(churn) || !within(kind, 0, KINDS - 1)) {
            return refuse(BEYOND);
        }
        Churn c = now.churns[churn];
        return c.kind.isUnder(kind) ? c.m : refuse(KIND);
    }

    // ---- orders

    public int go(int churn, int carrier) {
        if (!isChurn(churn) || !isCarrier(carrier)) {
            return refuse(BEYOND);
        }
        Churn c = now.churns[churn];
        if (!c.stands()) {
            return refuse(STATE);
        }
        now.setOff(c, carrier);
        return c.left;
    }

    public int brook(int churn) {
        if (!isChurn(churn)) {
            return refuse(BEYOND);
        }
        Churn c = now.churns[churn];
        if (c.how != RESTS || c.given) {
            return refuse(STATE);
        }
        if (now.inBrook(c.at) >= now.room(c.at)) {
            return refuse(FULL);
        }
        c.how = IN_BROOK;
        return now.inBrook(c.at);
    }

    public int rest(int churn) {
        if (!isChurn(churn)) {
            return refuse(BEYOND);
        }
        Churn c = now.churns[churn];
        if (c.how != IN_BROOK) {
            return refuse(STATE);
        }
        c.how = RESTS;
        return now.inBrook(c.at);
    }

    public int giveUp(int churn) {
        if (!isChurn(churn)) {
            return refuse(BEYOND);
        }
        Churn c = now.churns[churn];
        if (!c.stands()) {
            return refuse(STATE);
        }
        int gain = now.cheesePrice(c);
        c.how = RESTS;
        c.given = true;
        now.takeIn(gain);
        return gain;
    }

    public int refill(int churn) {
        if (!isChurn(churn)) {
            return refuse(BEYOND);
        }
        int was = now.churns[churn].how;
        now.churns[churn].renew();
        return was;
    }

    // ---- texts

    public int feed(long word, int n) {
        if (!within(n, 1, 8)) {
            return refuse(BEYOND);
        }
        if (now.bytes + n > TAPE) {
            return refuse(FULL);
        }
        for (int i = 0; i < n; i++) {
            now.tape[now.bytes] = (byte) (word >>> (8 * i));
            now.bytes++;
        }
        return now.bytes;
    }

    public int text(int use) {
        if (!within(use, 0, 1)) {
            return refuse(BEYOND);
        }
        int fault = now.lawOf(use).read(now.tape, now.bytes);
        now.bytes = 0;
        return fault < 0 ? 1 : -10 - fault;
    }

    public int law(int use, int a, int b, int c) {
        if (!within(use, 0, 1)) {
            return refuse(BEYOND);
        }
        return now.lawOf(use).value(a, b, c);
    }

    // ---- quarters

    public int quarters(int n) {
        if (!within(n, 1, 300)) {
            return refuse(BEYOND);
        }
        if (now.quarter + n > LAST_QUARTER) {
            return refuse(STATE);
        }
        for (int i = 0; i < n; i++) {
            now.passQuarter();
        }
        return now.takings;
    }

    public int days(int n) {
        if (!within(n, 1, 20)) {
            return refuse(BEYOND);
        }
        if (now.quarter + DRAWN_DAY * n > LAST_QUARTER) {
            return refuse(STATE);
        }
        for (int i = 0; i < DRAWN_DAY * n; i++) {
            if (now.draw() % 16 == 0) {
                now.strike();
            }
            now.passQuarter();
        }
        return now.takings;
    }

    public int thunder() {
        return now.strike();
    }

    public int then(int n, int churn, int what) {
        if (!within(n, 0, 300) || !isChurn(churn) || !within(what, 2, 7)) {
            return refuse(BEYOND);
        }
        Churn c = tried[0];
        c.copy(now.churns[churn]);
        for (int i = 0; i < n; i++) {
            now.pass(c, now.quarter + i);
        }
        return c.answer(what);
    }

    // ---- what would be

    public int relays(int churn, int n, int what) {
        if (!isChurn(churn) || !within(n, 0, Relays.LONGEST) || !within(what, -1, HILLS - 1)) {
            return refuse(BEYOND);
        }
        Churn c = now.churns[churn];
        if (!c.standsSweet()) {
            return refuse(STATE);
        }
        planner.prepare(now, c, n);
        int sour = planner.sourInTown();
        if (sour < 0 || (what >= 0 && what < c.at)) {
            return refuse(NONE);
        }
        return what < 0 ? sour : planner.choiceAt(what);
    }

    public int turnsAt(int churn, int carrier) {
        if (!isChurn(churn) || !isCarrier(carrier)) {
            return refuse(BEYOND);
        }
        if (!now.churns[churn].standsSweet()) {
            return refuse(STATE);
        }
        Churn c = tried[0];
        c.copy(now.churns[churn]);
        return whereItTurns(c, carrier);
    }

    public int bestGiven(int churn, int carrier, int what) {
        if (!isChurn(churn) || !isCarrier(carrier) || !within(what, 0, 1)) {
            return refuse(BEYOND);
        }
        if (!now.churns[churn].stands()) {
            return refuse(STATE);
        }
        Churn c = tried[0];
        c.copy(now.churns[churn]);
        int most = now.cheesePrice(c);
        int where = c.at;
        int quarter = now.quarter;
        for (int hill = c.at + 1; hill <= TOWN; hill++) {
            quarter += now.ride(c, carrier, quarter);
            int gain = hill == TOWN ? now.worth(c) : now.cheesePrice(c);
            if (gain > most) {
                most = gain;
                where = hill;
            }
        }
        return what == 0 ? where : most;
    }

    public int cellar(int churn, int n, int what) {
        if (!isChurn(churn) || !within(n, 0, Relays.LONGEST) || !within(what, 0, 1)) {
            return refuse(BEYOND);
        }
        Churn c = now.churns[churn];
        if (!c.standsSweet()) {
            return refuse(STATE);
        }
        planner.prepare(now, c, n);
        int least = -1;
        int where = -1;
        for (int hill = 0; hill < HILLS; hill++) {
            int sour = hill < c.at ? planner.sourInTown() : planner.sourWithCellar(now, c, hill);
            if (sour >= 0 && (where < 0 || sour < least)) {
                least = sour;
                where = hill;
            }
        }
        if (where < 0) {
            return refuse(NONE);
        }
        return what == 0 ? where : least;
    }

    public long odds(int p, int n, int part) {
        if (!within(p, 0, 16) || !within(n, 0, 12) || !within(part, 0, 1)) {
            return refuse(BEYOND);
        }
        long above = 1;
        long below = 1;
        for (int i = 0; i < n; i++) {
            above *= 16 - p;
            below *= 16;
        }
        // What is below the line is a power of two (2 by 4 times n), so nothing but 2 can be cut.
        for (int i = 0; i < 4 * n && above % 2 == 0 && below % 2 == 0; i++) {
            above /= 2;
            below /= 2;
        }
        return part == 0 ? above : below;
    }

    public int byWhom(int churn, int quarter, int sour) {
        if (!isChurn(churn) || !within(quarter, 0, LAST_QUARTER)) {
            return refuse(BEYOND);
        }
        Churn c = tried[0];
        c.copy(now.churns[churn]);
        int bits = 0;
        for (int carrier = 0; carrier < CARRIERS; carrier++) {
            c.renew();
            int at = quarter;
            for (int hill = 0; hill < HILLS; hill++) {
                at += now.ride(c, carrier, at);
            }
            if (c.sour == sour) {
                bits |= 1 << carrier;
            }
        }
        return bits;
    }

    // ---- draws, voices, sheets, images, what is told

    public int seed(int v) {
        int was = now.z;
        now.z = v;
        return was;
    }

    public int voice(int churn, int act, int x) {
        if (!isChurn(churn) || !within(act, 0, 3)) {
            return refuse(BEYOND);
        }
        Churn c = now.churns[churn];
        traced[0] = 0;
        switch (act) {
            case 0: return c.kind.fills(c, traced, x);
            case 1: return c.kind.shakes(c, traced, x);
            case 2: return c.kind.cools(c, traced, x);
            default: return c.kind.tells(c, traced, x);
        }
    }

    public int trace(int i) {
        if (!within(i, 0, traced[0] - 1) || i >= TRACED) {
            return refuse(NONE);
        }
        return traced[1 + i];
    }

    public int sheet(int sheet, int bits, int n) {
        if (!isSheet(sheet) || (bits != 0 && bits != 8 && bits != 16 && bits != 32)) {
            return refuse(BEYOND);
        }
        if (bits == 0) {
            sheetBits[sheet] = 0;
            return 1;
        }
        if (n < 0) {
            return refuse(STATE);
        }
        if (n > SHEET_LENGTH) {
            return refuse(BEYOND);
        }
        Arrays.fill(sheetNumbers[sheet], 0);
        sheetBits[sheet] = bits;
        sheetLengths[sheet] = n;
        return 1;
    }

    public int put(int sheet, int i, int v) {
        if (!isSheet(sheet)) {
            return refuse(BEYOND);
        }
        if (sheetBits[sheet] == 0) {
            return refuse(NONE);
        }
        if (!within(i, 0, sheetLengths[sheet] - 1)) {
            return refuse(BEYOND);
        }
        sheetNumbers[sheet][i] = sheetBits[sheet] == 32 ? v : v & ((1 << sheetBits[sheet]) - 1);
        return 1;
    }

    public int move(int sheet, int i, int other, int j, int n) {
        if (!isSheet(sheet) || !isSheet(other)) {
            return refuse(BEYOND);
        }
        if (sheetBits[sheet] == 0 || sheetBits[other] == 0) {
            return refuse(NONE);
        }
        if (sheetBits[sheet] != sheetBits[other]) {
            return refuse(KIND);
        }
        if (!stand(sheet, i, n) || !stand(other, j, n)) {
            return refuse(BEYOND);
        }
        System.arraycopy(sheetNumbers[sheet], i, sheetNumbers[other], j, n);
        return n;
    }

    public int heats(int sheet) {
        if (!isSheet(sheet)) {
            return refuse(BEYOND);
        }
        if (sheetBits[sheet] == 0) {
            return refuse(NONE);
        }
        int many = Math.min(sheetLengths[sheet], HILLS);
        for (int i = 0; i < many; i++) {
            int v = sheetNumbers[sheet][i];
            if (!within(v, 0, mostOfHill(0))) {
                return i;
            }
            now.heats[i] = v;
        }
        return many;
    }

    public int judge(int sheet) {
        if (!isSheet(sheet)) {
            return refuse(BEYOND);
        }
        if (sheetBits[sheet] == 0) {
            return refuse(NONE);
        }
        int both = Math.min(sheetLengths[sheet], now.many);
        for (int i = 0; i < both; i++) {
            if (sheetNumbers[sheet][i] != now.churns[i].state()) {
                return i;
            }
        }
        return sheetLengths[sheet] == now.many ? -1 : both;
    }

    public int image() {
        kept.copy(now);
        images++;
        return images;
    }

    public int restore() {
        if (images == 0) {
            return refuse(NONE);
        }
        now.copy(kept);
        return now.quarter;
    }

    public int tell(int v) {
        if (now.waits >= WAITING) {
            return refuse(FULL);
        }
        now.waiting[now.waits] = v;
        now.waits++;
        return now.waits;
    }

    public int check() {
        int waits = now.waits;
        now.waits = 0;
        for (int i = 0; i < now.many; i++) {
            tried[i].copy(now.churns[i]);
        }
        for (int place = 0; place < waits; place++) {
            if (sourBehindNext(now.quarter + place) != now.waiting[place]) {
                return 1 + place;
            }
        }
        return 0;
    }

    public int count(int what) {
        switch (what) {
            case 0: return now.many;
            case 1: return now.quarter;
            case 2: return now.takings;
            case 3: return now.howMany(IN_TOWN);
            case 4: return now.howMany(ON_WAY);
            case 5: return now.sweetOnes();
            case 6: return now.bytes;
            case 7: return now.waits;
            case 8: return traced[0];
            case 9: return now.z;
            default: return refuse(BEYOND);
        }
    }

    public int told(int k) {
        if (!within(k, BEYOND, KIND)) {
            return refuse(BEYOND);
        }
        return errors[k];
    }

    // ---- what the calls share

    private int refuse(int k) {
        errors[k]++;
        return LOW - k;
    }

    private static boolean within(int v, int least, int most) {
        return v >= least && v <= most;
    }

    private static int mostOfHill(int what) {
        return what == 0 ? 40 : what == 1 ? 3 : 99;
    }

    private static boolean isCarrier(int carrier) {
        return within(carrier, 0, CARRIERS - 1);
    }

    private static boolean isSheet(int sheet) {
        return within(sheet, 0, SHEETS - 1);
    }

    private boolean isChurn(int churn) {
        return within(churn, 0, now.many - 1) && churn < CHURNS;
    }

    /** The length is taken from n, as a sum of i and n could wrap. */
    private boolean stand(int sheet, int i, int n) {
        return n >= 0 && i >= 0 && n <= sheetLengths[sheet] && i <= sheetLengths[sheet] - n;
    }

    private int whereItTurns(Churn c, int carrier) {
        int quarter = now.quarter;
        for (int hill = c.at; hill < HILLS; hill++) {
            now.setOff(c, carrier);
            int pace = c.left;
            for (int i = 0; i < pace; i++) {
                now.pass(c, quarter);
                quarter++;
                if (c.state() != SWEET) {
                    return hill;
                }
            }
        }
        return -1;
    }

    private int sourBehindNext(int quarter) {
        int sum = 0;
        for (int i = 0; i < now.many; i++) {
            now.pass(tried[i], quarter);
            sum += tried[i].sour;
        }
        return sum;
    }

    /** The KIND 0, CHURN, and what all KINDS are asked for; those under it say only what is otherwise with them. */
    private static class Kind {
        final int number;

        Kind(int number) {
            this.number = number;
        }

        /** A KIND's number is that of the KIND above and 3, if that isn't 0. */
        final boolean isUnder(int kind) {
            return kind == 0 || kind == number || kind + 3 == number;
        }

        int warms(int v, int m) {
            return v;
        }

        int jolts(int v, int m) {
            return v;
        }

        int turns(int m) {
            return 100;
        }

        int fills(Churn c, int[] trace, int x) {
            begin(trace, 10);
            return x + c.number;
        }

        int shakes(Churn c, int[] trace, int x) {
            begin(trace, 11);
            return c.kind.fills(c, trace, x) * 2;
        }

        int cools(Churn c, int[] trace, int x) {
            begin(trace, 12);
            return x - c.m;
        }

        int tells(Churn c, int[] trace, int x) {
            begin(trace, 13);
            int shaken = c.kind.shakes(c, trace, x);
            return shaken ^ c.kind.cools(c, trace, x);
        }

        static void begin(int[] trace, int body) {
            if (trace[0] < TRACED) {
                trace[0]++;
                trace[trace[0]] = body;
            }
        }
    }

    private static class Goats extends Kind {
        Goats(int number) {
            super(number);
        }

        int warms(int v, int m) {
            return super.warms(v, m) + m / 3;
        }

        int turns(int m) {
            return 80;
        }

        int shakes(Churn c, int[] trace, int x) {
            begin(trace, 20);
            int shaken = super.shakes(c, trace, x);
            return shaken - c.kind.cools(c, trace, 1);
        }
    }

    private static class Lidded extends Kind {
        Lidded(int number) {
            super(number);
        }

        int warms(int v, int m) {
            return super.warms(v, m) / 2;
        }

        int fills(Churn c, int[] trace, int x) {
            begin(trace, 30);
            return super.fills(c, trace, x) * 3;
        }
    }

    private static class Creamed extends Kind {
        Creamed(int number) {
            super(number);
        }

        int jolts(int v, int m) {
            return 2 * v;
        }

        int cools(Churn c, int[] trace, int x) {
            begin(trace, 40);
            return -super.cools(c, trace, x);
        }
    }

    private static final class Running extends Goats {
        Running(int number) {
            super(number);
        }

        int jolts(int v, int m) {
            return Math.max(0, super.jolts(v, m) - 2);
        }

        int turns(int m) {
            return super.turns(m) + 5 * m;
        }

        int shakes(Churn c, int[] trace, int x) {
            begin(trace, 50);
            return super.shakes(c, trace, x + 1);
        }
    }

    private static final class Sealed extends Lidded {
        Sealed(int number) {
            super(number);
        }

        int warms(int v, int m) {
            return Math.max(0, super.warms(v, m) - 1);
        }

        int turns(int m) {
            return super.turns(m) + 20;
        }

        int tells(Churn c, int[] trace, int x) {
            begin(trace, 60);
            int told = super.tells(c, trace, x);
            return told - c.kind.fills(c, trace, 2);
        }
    }

    private static final class Old extends Creamed {
        Old(int number) {
            super(number);
        }

        int warms(int v, int m) {
            return super.warms(v, m) + 2;
        }

        int jolts(int v, int m) {
            return super.jolts(v, m) + m;
        }

        int cools(Churn c, int[] trace, int x) {
            begin(trace, 70);
            return super.cools(c, trace, x) ^ c.number;
        }

        int tells(Churn c, int[] trace, int x) {
            begin(trace, 71);
            int shaken = c.kind.shakes(c, trace, x);
            return shaken - super.tells(c, trace, x);
        }
    }

    /** A CHURN, where it is AT and how it is. */
    private static final class Churn {
        final int number;
        Kind kind;
        int m;
        int at;
        int how;
        int left;
        int carrier;
        int sour;
        int shaken;
        boolean given;

        Churn(int number, Kind kind) {
            this.number = number;
            this.kind = kind;
            this.carrier = -1;
        }

        void renew() {
            at = 0;
            how = RESTS;
            left = 0;
            carrier = -1;
            sour = 0;
            shaken = 0;
            given = false;
        }

        void copy(Churn other) {
            kind = other.kind;
            m = other.m;
            at = other.at;
            how = other.how;
            left = other.left;
            carrier = other.carrier;
            sour = other.sour;
            shaken = other.shaken;
            given = other.given;
        }

        int state() {
            if (given) {
                return CHEESE;
            }
            if (sour >= kind.turns(m)) {
                return WHEY;
            }
            return shaken >= 60 ? BUTTER : SWEET;
        }

        boolean stands() {
            return !given && (how == RESTS || how == IN_BROOK);
        }

        boolean standsSweet() {
            return stands() && state() == SWEET;
        }

        void sourBy(int v) {
            sour = Math.max(0, Math.min(9999, sour + v));
        }

        void shakeBy(int v) {
            shaken = Math.max(0, Math.min(9999, shaken + v));
        }

        int answer(int what) {
            switch (what) {
                case 0: return kind.number;
                case 1: return m;
                case 2: return at;
                case 3: return how;
                case 4: return left;
                case 5: return sour;
                case 6: return shaken;
                case 7: return state();
                case 8: return kind.turns(m);
                default: return carrier;
            }
        }
    }

    /** All that an IMAGE keeps. */
    private static final class World {
        final int[] heats = new int[HILLS];
        final int[] rooms = new int[HILLS];
        final int[] prices = new int[HILLS];
        final int[] paces = new int[CARRIERS];
        final int[] shakes = new int[CARRIERS];
        final Churn[] churns = new Churn[CHURNS];
        int many;
        int quarter;
        int takings;
        final byte[] tape = new byte[TAPE];
        int bytes;
        final Text warmLaw = new Text("tq", "t/4", 40);
        final Text worthLaw = new Text("srm", "(s=0)*50+(s=1)*30", 999);
        final int[] waiting = new int[WAITING];
        int waits;
        int z = 1;

        World(Kind first) {
            Arrays.fill(heats, 8);
            Arrays.fill(prices, 10);
            for (int i = 0; i < CARRIERS; i++) {
                paces[i] = i + 1;
                shakes[i] = 9 - 2 * i;
            }
            for (int i = 0; i < CHURNS; i++) {
                churns[i] = new Churn(i, first);
            }
        }

        void copy(World other) {
            System.arraycopy(other.heats, 0, heats, 0, HILLS);
            System.arraycopy(other.rooms, 0, rooms, 0, HILLS);
            System.arraycopy(other.prices, 0, prices, 0, HILLS);
            System.arraycopy(other.paces, 0, paces, 0, CARRIERS);
            System.arraycopy(other.shakes, 0, shakes, 0, CARRIERS);
            for (int i = 0; i < CHURNS; i++) {
                churns[i].copy(other.churns[i]);
            }
            many = other.many;
            quarter = other.quarter;
            takings = other.takings;
            System.arraycopy(other.tape, 0, tape, 0, TAPE);
            bytes = other.bytes;
            warmLaw.copy(other.warmLaw);
            worthLaw.copy(other.worthLaw);
            System.arraycopy(other.waiting, 0, waiting, 0, WAITING);
            waits = other.waits;
            z = other.z;
        }

        Text lawOf(int use) {
            return use == 0 ? warmLaw : worthLaw;
        }

        int room(int hill) {
            return within(hill, 0, HILLS - 1) ? rooms[hill] : 0;
        }

        int warm(int hill, int at) {
            return within(hill, 0, HILLS - 1) ? warmLaw.value(heats[hill], at % DAY, 0) : 0;
        }

        int worth(Churn c) {
            return worthLaw.value(c.state(), c.sour, c.m);
        }

        int cheesePrice(Churn c) {
            return within(c.at, 0, HILLS - 1) ? prices[c.at] * Math.max(0, 100 - c.sour) / 10 : 0;
        }

        void takeIn(int gain) {
            takings = Math.max(-99999, Math.min(99999, takings + gain));
        }

        int inBrook(int hill) {
            int in = 0;
            for (int i = 0; i < many; i++) {
                if (churns[i].how == IN_BROOK && churns[i].at == hill) {
                    in++;
                }
            }
            return in;
        }

        int howMany(int how) {
            int found = 0;
            for (int i = 0; i < many; i++) {
                if (churns[i].how == how) {
                    found++;
                }
            }
            return found;
        }

        int sweetOnes() {
            int found = 0;
            for (int i = 0; i < many; i++) {
                if (churns[i].state() == SWEET) {
                    found++;
                }
            }
            return found;
        }

        int draw() {
            z = z * 1103515245 + 12345;
            return z >>> 8;
        }

        int strike() {
            int reached = 0;
            for (int i = 0; i < many; i++) {
                if (!churns[i].given && churns[i].how != IN_TOWN) {
                    churns[i].sourBy(30);
                    reached++;
                }
            }
            return reached;
        }

        void passQuarter() {
            for (int i = 0; i < many; i++) {
                if (pass(churns[i], quarter)) {
                    takeIn(worth(churns[i]));
                }
            }
            quarter++;
        }

        /** Whether it has come to the TOWN in this QUARTER; the TAKINGS are not touched, so that it can be tried. */
        boolean pass(Churn c, int at) {
            if (c.given || c.how == IN_TOWN || c.how == IN_BROOK) {
                return false;
            }
            c.sourBy(c.kind.warms(warm(c.at, at), c.m));
            if (c.how == RESTS) {
                return false;
            }
            int shake = isCarrier(c.carrier) ? shakes[c.carrier] : 0;
            c.shakeBy(c.kind.jolts(shake, c.m));
            c.left--;
            if (c.left > 0) {
                return false;
            }
            c.left = 0;
            c.carrier = -1;
            c.at++;
            c.how = c.at >= TOWN ? IN_TOWN : RESTS;
            return c.how == IN_TOWN;
        }

        void setOff(Churn c, int by) {
            if (isCarrier(by)) {
                c.how = ON_WAY;
                c.carrier = by;
                c.left = paces[by];
            }
        }

        /** On to the next HILL, or the TOWN: how many QUARTERS that takes. */
        int ride(Churn c, int by, int from) {
            setOff(c, by);
            int pace = c.left;
            for (int i = 0; i < pace; i++) {
                pass(c, from + i);
            }
            return pace;
        }
    }

    /** The TEXT of a USE, held as a row of signs that a stack works off: numbers, names, then what joins them. */
    private static final class Text {
        /** A sign from here on is a number, one below 3 a name, any other one the character of what joins. */
        private static final int NUMBERS = 1000;

        private final String names;
        private final int most;
        private final int[] code = new int[TAPE];
        private int length;
        private final int[] draft = new int[TAPE];
        private int drafted;
        private final int[] stack = new int[TAPE];
        private byte[] tape;
        private int bytes;
        private int place;

        Text(String names, String first, int most) {
            this.names = names;
            this.most = most;
            byte[] signs = new byte[first.length()];
            for (int i = 0; i < signs.length; i++) {
                signs[i] = (byte) first.charAt(i);
            }
            read(signs, signs.length);
        }

        void copy(Text other) {
            System.arraycopy(other.code, 0, code, 0, TAPE);
            length = other.length;
        }

        /** The FAULT, or -1 if it is a TEXT, which then stands in place of the one ahead. */
        int read(byte[] from, int n) {
            tape = from;
            bytes = Math.max(0, Math.min(n, from.length));
            place = 0;
            drafted = 0;
            if (!readAny(0) || place < bytes) {
                return place;
            }
            System.arraycopy(draft, 0, code, 0, TAPE);
            length = drafted;
            return -1;
        }

        int value(int a, int b, int c) {
            int top = 0;
            for (int i = 0; i < length && i < TAPE; i++) {
                int sign = code[i];
                if (sign < 3 || sign >= NUMBERS) {
                    if (top < TAPE) {
                        stack[top] = sign >= NUMBERS ? sign - NUMBERS : sign == 0 ? a : sign == 1 ? b : c;
                        top++;
                    }
                } else if (sign == '!' && top > 0) {
                    stack[top - 1] = bit(stack[top - 1] == 0);
                } else if (top > 1) {
                    top--;
                    stack[top - 1] = joined(sign, stack[top - 1], stack[top]);
                }
            }
            return Math.max(0, Math.min(most, stack[0]));
        }

        private static int joined(int sign, int a, int b) {
            switch (sign) {
                case '|': return bit(a != 0 || b != 0);
                case '&': return bit(a != 0 && b != 0);
                case '<': return bit(a < b);
                case '=': return bit(a == b);
                case '>': return bit(a > b);
                case '+': return a + b;
                case '-': return a - b;
                case '*': return a * b;
                case '/': return b == 0 ? 0 : a / b;
                default: return b == 0 ? 0 : a % b;
            }
        }

        private static int bit(boolean is) {
            return is ? 1 : 0;
        }

        /** Each of these reads what the document calls T, A, B, S, P, Q; where one fails, the FAULT is the place. */
        private boolean readAny(int open) {
            boolean reads = readAll(open);
            for (int i = 0; i < TAPE && reads && sees('|'); i++) {
                place++;
                reads = readAll(open);
                write('|');
            }
            return reads;
        }

        private boolean readAll(int open) {
            boolean reads = readCompared(open);
            for (int i = 0; i < TAPE && reads && sees('&'); i++) {
                place++;
                reads = readCompared(open);
                write('&');
            }
            return reads;
        }

        private boolean readCompared(int open) {
            if (!readSum(open)) {
                return false;
            }
            int sign = next();
            if (sign != '<' && sign != '=' && sign != '>') {
                return true;
            }
            place++;
            boolean reads = readSum(open);
            write(sign);
            return reads;
        }

        private boolean readSum(int open) {
            boolean reads = readProduct(open);
            for (int i = 0; i < TAPE && reads && (sees('+') || sees('-')); i++) {
                int sign = next();
                place++;
                reads = readProduct(open);
                write(sign);
            }
            return reads;
        }

        private boolean readProduct(int open) {
            boolean reads = readSingle(open);
            for (int i = 0; i < TAPE && reads && (sees('*') || sees('/') || sees('%')); i++) {
                int sign = next();
                place++;
                reads = readSingle(open);
                write(sign);
            }
            return reads;
        }

        private boolean readSingle(int open) {
            if (seesDigit()) {
                readNumber();
                return true;
            }
            if (sees('!') || sees('(')) {
                return open < OPEN && readOpened(open + 1);
            }
            int name = next() < 0 ? -1 : names.indexOf((char) next());
            if (name < 0) {
                return false;
            }
            place++;
            write(name);
            return true;
        }

        private boolean readOpened(int open) {
            boolean not = sees('!');
            place++;
            if (not) {
                boolean reads = readSingle(open);
                write('!');
                return reads;
            }
            if (!readAny(open) || !sees(')')) {
                return false;
            }
            place++;
            return true;
        }

        private void readNumber() {
            int number = 0;
            for (int i = 0; i < 4 && seesDigit(); i++) {
                number = 10 * number + next() - '0';
                place++;
            }
            write(NUMBERS + number);
        }

        /** -1 behind the last byte. */
        private int next() {
            return place < bytes ? tape[place] & 255 : -1;
        }

        private boolean sees(char sign) {
            return next() == sign;
        }

        private boolean seesDigit() {
            return next() >= '0' && next() <= '9';
        }

        private void write(int sign) {
            if (drafted < TAPE) {
                draft[drafted] = sign;
                drafted++;
            }
        }
    }

    /**
     * RELAYS of one CHURN. What a QUARTER adds depends on the HILL and the QUARTER alone, so the least SOUR that is
     * still to come is worked out once for each HILL, QUARTERS gone and SHAKEN, and only where relays come by.
     * As nothing ever falls, a CHURN that is sweet IN TOWN was sweet in each QUARTER.
     */
    private static final class Relays {
        static final int LONGEST = 60;
        private static final int LONGEST_WAIT = 2;
        private static final int TIMES = LONGEST + 1;
        private static final int SHAKES = 60;
        private static final int LEVEL = TIMES * SHAKES;
        /** More than a CHURN that stays sweet can still take in, as TURNS is 125 at most. */
        private static final int NEVER = 126;
        private static final int CHOICES = 32;
        private static final int BITS = 12;
        private static final int IN_A_LONG = 5;

        /**
         * 0: not worked out yet; else 1 more than CHOICES times the least SOUR to come, and the first choice to it.
         * Of these, which have 12 BITS at most, five stand in a long, as an object is to be made of few elements.
         */
        private final long[] found = new long[HILLS * LEVEL / IN_A_LONG];
        /** For each HILL, the SOUR that all QUARTERS ahead of one bring. */
        private final int[] sums = new int[HILLS * TIMES];
        private final boolean[] cool = new boolean[HILLS];
        private final int[] paces = new int[CARRIERS];
        private final int[] jolts = new int[CARRIERS];
        private int by;
        private int quickest;
        private int first;
        private int sour;
        private int shaken;
        private int turns;

        void prepare(World world, Churn c, int n) {
            by = Math.max(0, Math.min(LONGEST, n));
            first = Math.max(0, Math.min(HILLS - 1, c.at));
            sour = c.sour;
            shaken = c.shaken;
            turns = c.kind.turns(c.m);
            quickest = LONGEST;
            for (int i = 0; i < CARRIERS; i++) {
                paces[i] = world.paces[i];
                jolts[i] = world.paces[i] * c.kind.jolts(world.shakes[i], c.m);
                quickest = Math.min(quickest, paces[i]);
            }
            for (int hill = first; hill < HILLS; hill++) {
                cool[hill] = world.rooms[hill] > 0;
                sumUp(world, c, hill, world.heats[hill]);
            }
            forget(HILLS - 1);
        }

        /** -1: there are none. */
        int sourInTown() {
            int all = sour + least(first, 0, shaken);
            return all < turns ? all : -1;
        }

        /** For HILLS one after another only: what has been found beyond a HILL still holds with its cellar. */
        int sourWithCellar(World world, Churn c, int hill) {
            if (!within(hill, first, HILLS - 1)) {
                return sourInTown();
            }
            sumUp(world, c, hill, 0);
            forget(hill);
            int all = sourInTown();
            sumUp(world, c, hill, world.heats[hill]);
            return all;
        }

        /** 10 times how long it waits AT a HILL, and the CARRIER; asked only if there are RELAYS. */
        int choiceAt(int asked) {
            int gone = 0;
            int shakenThen = shaken;
            int choice = firstChoice(first, gone, shakenThen);
            for (int hill = first; hill < asked; hill++) {
                int carrier = choice % 10;
                gone += choice / 10 + (isCarrier(carrier) ? paces[carrier] : 0);
                shakenThen += isCarrier(carrier) ? jolts[carrier] : 0;
                choice = firstChoice(hill + 1, gone, shakenThen);
            }
            return choice;
        }

        private int firstChoice(int hill, int gone, int shakenThen) {
            int place = placeOf(hill, gone, shakenThen);
            int known = place < 0 ? 0 : foundAt(place);
            return known > 0 ? (known - 1) % CHOICES : 0;
        }

        private int foundAt(int place) {
            long five = found[place / IN_A_LONG];
            return (int) (five >>> (BITS * (place % IN_A_LONG))) & ((1 << BITS) - 1);
        }

        /** Only for a place at which nothing has been found yet. */
        private void keep(int place, int known) {
            found[place / IN_A_LONG] |= (long) known << (BITS * (place % IN_A_LONG));
        }

        /** -1: no relays stand there. */
        private static int placeOf(int hill, int gone, int shakenThen) {
            if (!within(hill, 0, HILLS - 1) || !within(gone, 0, LONGEST) || !within(shakenThen, 0, SHAKES - 1)) {
                return -1;
            }
            return hill * LEVEL + gone * SHAKES + shakenThen;
        }

        /** Calls itself for the next HILL only, and ends behind the last one. */
        private int least(int hill, int gone, int shakenThen) {
            if (hill >= HILLS) {
                return 0;
            }
            int place = placeOf(hill, gone, shakenThen);
            if (place < 0) {
                return NEVER;
            }
            int known = foundAt(place);
            if (known > 0) {
                return (known - 1) / CHOICES;
            }
            int latest = by - quickest * (HILLS - 1 - hill);
            int best = NEVER;
            int choice = 0;
            for (int wait = 0; wait <= LONGEST_WAIT; wait++) {
                int leaves = gone + wait;
                for (int carrier = 0; carrier < CARRIERS; carrier++) {
                    int comes = leaves + paces[carrier];
                    int after = shakenThen + jolts[carrier];
                    if (comes <= latest && after < SHAKES) {
                        int here = between(hill, cool[hill] ? leaves : gone, comes);
                        int all = here < best ? here + least(hill + 1, comes, after) : best;
                        if (all < best) {
                            best = all;
                            choice = 10 * wait + carrier;
                        }
                    }
                }
            }
            keep(place, 1 + CHOICES * best + choice);
            return best;
        }

        private int between(int hill, int from, int until) {
            return sums[hill * TIMES + until] - sums[hill * TIMES + from];
        }

        private void sumUp(World world, Churn c, int hill, int heat) {
            int start = hill * TIMES;
            sums[start] = 0;
            for (int i = 0; i < by; i++) {
                int warm = world.warmLaw.value(heat, (world.quarter + i) % DAY, 0);
                sums[start + i + 1] = sums[start + i] + c.kind.warms(warm, c.m);
            }
        }

        private void forget(int last) {
            Arrays.fill(found, first * LEVEL / IN_A_LONG, (last + 1) * LEVEL / IN_A_LONG, 0L);
        }
    }
}
