import java.util.Arrays;

/**
 * Each sentence of the document that names a boundary case, promise by promise, first those of "Terms": just inside
 * of its bounds, empty and full, what wraps around. What is refused just outside stands in RefusalTests.
 */
public final class BoundaryTests {
    private static final int BEYOND = -1000000001;
    private static final int NONE = -1000000002;
    private static final int STATE = -1000000003;
    private static final int FULL = -1000000004;
    private static final int MIN = Integer.MIN_VALUE;
    private static final int MAX = Integer.MAX_VALUE;

    private static String sentence;
    private static int sentences;
    private static int wrong;

    private BoundaryTests() {
    }

    public static void main(String[] args) {
        hillsAndCarriers();
        churns();
        kinds();
        states();
        quarters();
        takings();
        texts();
        faults();
        uses();
        relays();
        firstRelays();
        straight();
        given();
        cellars();
        odds();
        days();
        voices();
        orders();
        tape();
        sheets();
        moves();
        heatsAndJudges();
        images();
        numbers();
        counts();
        System.out.println(wrong == 0 ? sentences + " sentences hold" : wrong + " answers are not as the sentences ask");
        if (wrong != 0) {
            System.exit(1);
        }
    }

    // ---- what the tests share

    private static void says(String words) {
        sentence = words;
        sentences++;
    }

    private static void due(String what, long got, long want) {
        if (got != want) {
            wrong++;
            System.out.println(sentence + "\n    " + what + " is " + got + ", due is " + want);
        }
    }

    private static void dueAll(String what, int[] got, int... want) {
        if (!Arrays.equals(got, want)) {
            wrong++;
            System.out.println(sentence + "\n    " + what + " are " + Arrays.toString(got) + ", due are "
                + Arrays.toString(want));
        }
    }

    private static MilkHills with(int... kms) {
        MilkHills x = new MilkHills();
        for (int km : kms) {
            x.churn(km);
        }
        return x;
    }

    private static int text(MilkHills x, int use, String text) {
        for (int i = 0; i < text.length(); i++) {
            x.feed(text.charAt(i), 1);
        }
        return x.text(use);
    }

    private static void warm(MilkHills x, int v) {
        text(x, 0, Integer.toString(v));
    }

    /** Makes CHURN 0, which RESTS and is a plain one, SOUR by so much more. */
    private static void sour(MilkHills x, int more) {
        warm(x, 40);
        if (more >= 40) {
            for (int left = more / 40; left > 0; left -= 300) {
                x.quarters(Math.min(300, left));
            }
        }
        warm(x, more % 40);
        x.quarters(1);
        warm(x, 0);
    }

    /** Brings a CHURN on to a HILL, by CARRIER 3 and QUARTER by QUARTER, with neither SOUR nor SHAKEN. */
    private static void bring(MilkHills x, int churn, int hill) {
        warm(x, 0);
        x.carrier(3, 1, 0);
        while (x.ofChurn(churn, 2) < hill) {
            x.go(churn, 3);
            x.quarters(1);
        }
    }

    /** Makes CHURN 0, which RESTS, SHAKEN by so much on the way to the next HILL, by CARRIER 3. */
    private static void shake(MilkHills x, int pace, int shake) {
        warm(x, 0);
        x.carrier(3, pace, shake);
        x.go(0, 3);
        x.quarters(pace);
    }

    private static int[] ofChurn(MilkHills x, int churn) {
        int[] all = new int[10];
        for (int what = 0; what < 10; what++) {
            all[what] = x.ofChurn(churn, what);
        }
        return all;
    }

    private static int[] way(MilkHills x, int churn, int n) {
        int first = x.ofChurn(churn, 2);
        int[] all = new int[9 - first];
        for (int hill = first; hill <= 8; hill++) {
            all[hill - first] = x.relays(churn, n, hill);
        }
        return all;
    }

    // ---- terms 1: hills, carriers, churns

    private static void hillsAndCarriers() {
        says("HILLS 0 (the dairy) to 8 .. a HEAT (0 to 40; 8 at first), a ROOM (0 to 3; 0 at first), a PRICE (0 to 99; 10)");
        MilkHills x = new MilkHills();
        int[] first = {8, 0, 10};
        int[] most = {40, 3, 99};
        for (int hill = 0; hill <= 8; hill++) {
            for (int what = 0; what <= 2; what++) {
                due("at first", x.ofHill(hill, what), first[what]);
                due("what it was", x.hill(hill, what, most[what]), first[what]);
                due("the most", x.hill(hill, what, 0), most[what]);
                due("the least", x.ofHill(hill, what), 0);
            }
        }
        says("HILLS 0 to 8; 9 is the TOWN");
        MilkHills y = with(0);
        bring(y, 0, 8);
        dueAll("at hill 8", ofChurn(y, 0), 0, 0, 8, 0, 0, 0, 0, 0, 100, -1);
        bring(y, 0, 9);
        dueAll("in town", ofChurn(y, 0), 0, 0, 9, 3, 0, 0, 0, 0, 100, -1);
        says("CARRIERS 0 to 3: .. at first PACE is the number and 1, SHAKE 9 less twice the number");
        for (int carrier = 0; carrier <= 3; carrier++) {
            MilkHills z = with(0);
            due("PACE", z.go(0, carrier), carrier + 1);
            z.quarters(1);
            due("SHAKE", z.ofChurn(0, 6), 9 - 2 * carrier);
            due("PACE", z.carrier(carrier, 1, 1), 10 * (carrier + 1));
        }
        paces();
    }

    private static void paces() {
        says("a PACE (1 to 9 QUARTERS from a HILL to the next one, or the TOWN)");
        for (int from : new int[] {0, 8}) {
            for (int pace : new int[] {1, 9}) {
                MilkHills x = with(0);
                bring(x, 0, from);
                x.carrier(1, pace, 0);
                due("LEFT", x.go(0, 1), pace);
                if (pace > 1) {
                    x.quarters(pace - 1);
                    due("where, one QUARTER ahead", x.ofChurn(0, 2), from);
                    due("LEFT, one QUARTER ahead", x.ofChurn(0, 4), 1);
                }
                x.quarters(1);
                due("where", x.ofChurn(0, 2), from + 1);
                due("how", x.ofChurn(0, 3), from == 8 ? 3 : 0);
                due("LEFT", x.ofChurn(0, 4), 0);
            }
        }
        says("a SHAKE (0 to 20)");
        for (int shake : new int[] {0, 1, 20}) {
            MilkHills x = with(0);
            shake(x, 1, shake);
            due("SHAKEN", x.ofChurn(0, 6), shake);
        }
        says("A CARRIER has a PACE, a SHAKE from now on (also for those on their WAY; LEFT stays)");
        MilkHills x = with(0);
        x.carrier(0, 9, 0);
        x.go(0, 0);
        x.quarters(1);
        due("PACE was", x.carrier(0, 1, 20), 90);
        due("LEFT stays", x.ofChurn(0, 4), 8);
        x.quarters(1);
        due("SHAKEN by the new SHAKE", x.ofChurn(0, 6), 20);
        x.carrier(0, 9, 1);
        x.quarters(6);
        due("LEFT", x.ofChurn(0, 4), 1);
        due("SHAKEN", x.ofChurn(0, 6), 26);
    }

    private static void churns() {
        says("CHURNS 0, 1, .. (at most 6), of KINDS .. with a number m (0 to 9)");
        int[] kms = {0, 9, 10, 60, 69, 5};
        MilkHills x = new MilkHills();
        for (int i = 0; i < 6; i++) {
            due("its number", x.churn(kms[i]), i);
            due("how many", x.count(0), i + 1);
        }
        for (int i = 0; i < 6; i++) {
            due("KIND", x.ofChurn(i, 0), kms[i] / 10);
            due("m", x.ofChurn(i, 1), kms[i] % 10);
        }
        due("a seventh", x.churn(0), FULL);
        says("Each is AT a HILL (0 at first) .. RESTS (at first) .. SOUR, SHAKEN (0 at first)");
        dueAll("at first", ofChurn(x, 4), 6, 9, 0, 0, 0, 0, 0, 0, 100, -1);
        says("SOUR (.. held within 0 to 9999), by QUARTERS");
        MilkHills y = with(0, 20);
        sour(y, 9998);
        due("SOUR", y.ofChurn(0, 5), 9998);
        y.image();
        warm(y, 1);
        y.quarters(1);
        due("1 more", y.ofChurn(0, 5), 9999);
        y.quarters(1);
        due("held", y.ofChurn(0, 5), 9999);
        due("of another one, not held", y.ofChurn(1, 5), 9998 / 40 * 20 + 38 / 2);
        y.restore();
        warm(y, 2);
        y.quarters(1);
        due("2 more", y.ofChurn(0, 5), 9999);
        due("as they would go by", y.then(300, 0, 5), 9999);
        says("SOUR (.. held within 0 to 9999), by THUNDER");
        y.restore();
        due("both", y.thunder(), 2);
        due("30 more", y.ofChurn(0, 5), 9999);
        due("both, though one is held", y.thunder(), 2);
        due("held", y.ofChurn(0, 5), 9999);
    }

    /** What a QUARTER on the WAY adds to SOUR and SHAKEN. */
    private static void adds(int km, int warm, int shake, int sour, int shaken) {
        MilkHills x = with(km);
        warm(x, warm);
        x.carrier(0, 2, shake);
        x.go(0, 0);
        x.quarters(1);
        due("WARMS of " + warm + " for " + km, x.ofChurn(0, 5), sour);
        due("JOLTS of " + shake + " for " + km, x.ofChurn(0, 6), shaken);
    }

    private static void kinds() {
        says("WARMS: CHURN: v. JOLTS: CHURN: v.");
        adds(9, 0, 0, 0, 0);
        adds(9, 40, 20, 40, 20);
        says("GOATS: as CHURN, and m by 3. (Quotients are cut.)");
        int[] thirds = {0, 0, 0, 1, 1, 1, 2, 2, 2, 3};
        for (int m = 0; m <= 9; m++) {
            adds(10 + m, 0, 1, thirds[m], 1);
            adds(10 + m, 40, 20, 40 + thirds[m], 20);
            adds(40 + m, 7, 20, 7 + thirds[m], 18);
        }
        says("LIDDED: half of as CHURN. (Quotients are cut.)");
        int[] halves = {0, 0, 1, 1, 2};
        for (int v = 0; v <= 4; v++) {
            adds(29, v, v, halves[v], v);
        }
        adds(29, 39, 20, 19, 20);
        says("SEALED: as LIDDED, less 1 (0 at least).");
        int[] less = {0, 0, 0, 0, 1, 1, 2};
        for (int v = 0; v <= 6; v++) {
            adds(59, v, v, less[v], v);
        }
        adds(59, 40, 20, 19, 20);
        says("OLD: as CREAMED, and 2. CREAMED as the KIND above.");
        adds(60, 0, 0, 2, 0);
        adds(60, 40, 20, 42, 40);
        adds(39, 0, 0, 0, 0);
        adds(39, 40, 1, 40, 2);
        says("JOLTS: CREAMED: twice v. OLD: as CREAMED, and m.");
        adds(39, 1, 20, 1, 40);
        adds(61, 1, 0, 3, 1);
        adds(69, 1, 20, 3, 49);
        says("RUNNING: as GOATS, less 2 (0 at least).");
        int[] runs = {0, 0, 0, 1, 2};
        for (int v = 0; v <= 4; v++) {
            adds(40, 0, v, 0, runs[v]);
        }
        adds(40, 0, 20, 0, 18);
    }

    private static int turnsOf(int km) {
        int m = km % 10;
        return new int[] {100, 80, 100, 100, 80 + 5 * m, 120, 100}[km / 10];
    }

    private static void states() {
        says("TURNS at (SOUR): CHURN: 100. GOATS: 80. RUNNING: as GOATS, and 5 times m. SEALED: as LIDDED, and 20.");
        for (int km = 0; km <= 69; km++) {
            MilkHills x = with(0);
            sour(x, turnsOf(km) - 1);
            x.become(0, km);
            due("TURNS at, of " + km, x.ofChurn(0, 8), turnsOf(km));
            due("STATE of " + km + ", 1 less than that", x.ofChurn(0, 7), 0);
            x.become(0, 0);
            sour(x, 1);
            x.become(0, km);
            due("STATE of " + km + " at that", x.ofChurn(0, 7), 2);
        }
        says("else 1 butter, if SHAKEN is 60 or more; else 0 sweet.");
        MilkHills x = with(0);
        shake(x, 3, 13);
        shake(x, 1, 20);
        due("SHAKEN", x.ofChurn(0, 6), 59);
        due("STATE", x.ofChurn(0, 7), 0);
        shake(x, 1, 1);
        due("SHAKEN", x.ofChurn(0, 6), 60);
        due("STATE", x.ofChurn(0, 7), 1);
        shake(x, 1, 1);
        due("with 61", x.ofChurn(0, 7), 1);
        says("else 2 whey, if SOUR is TURNS or more (ahead of butter)");
        sour(x, 99);
        due("butter with SOUR 99", x.ofChurn(0, 7), 1);
        sour(x, 1);
        due("whey with SOUR 100", x.ofChurn(0, 7), 2);
        says("STATE: 3 cheese, if it is GIVEN UP (ahead of all others)");
        x.giveUp(0);
        due("cheese", x.ofChurn(0, 7), 3);
        MilkHills y = with(0);
        y.giveUp(0);
        due("cheese, though sweet", y.ofChurn(0, 7), 3);
    }

    private static void quarters() {
        says("QUARTER (0 to 9999; 0 at first) .. n (1 to 300) QUARTERS .. STATE: QUARTER would be above 9999.");
        MilkHills x = new MilkHills();
        due("at first", x.count(1), 0);
        for (int i = 0; i < 33; i++) {
            due("300 more", x.quarters(300), 0);
        }
        due("QUARTER", x.count(1), 9900);
        due("100 more", x.quarters(100), STATE);
        due("98 more", x.quarters(98), 0);
        due("2 more", x.quarters(2), STATE);
        due("1 more", x.quarters(1), 0);
        due("QUARTER", x.count(1), 9999);
        due("1 more", x.quarters(1), STATE);
        due("QUARTER", x.count(1), 9999);
        says("In the BROOK: nothing. .. if it isn't GIVEN UP or IN TOWN");
        MilkHills y = with(0, 0, 0, 0);
        bring(y, 0, 9);
        y.hill(0, 1, 1);
        y.brook(1);
        y.giveUp(2);
        warm(y, 7);
        y.quarters(1);
        due("IN TOWN", y.ofChurn(0, 5), 0);
        due("in the BROOK", y.ofChurn(1, 5), 0);
        due("GIVEN UP", y.ofChurn(2, 5), 0);
        due("RESTS", y.ofChurn(3, 5), 7);
        due("RESTS, SHAKEN", y.ofChurn(3, 6), 0);
        says("SOUR is more by WARMS of WARM (of the HILL which it left)");
        MilkHills z = with(0);
        text(z, 0, "t");
        z.hill(0, 0, 3);
        z.hill(1, 0, 40);
        z.carrier(0, 2, 1);
        z.go(0, 0);
        z.quarters(2);
        due("SOUR as it comes", z.ofChurn(0, 5), 6);
        z.quarters(1);
        due("SOUR of the next HILL", z.ofChurn(0, 5), 46);
        says("QUARTER modulo 96 (of the day)");
        text(z, 0, "q");
        z.hill(0, 0, 0);
        z.refill(0);
        z.quarters(92);
        due("QUARTER 95, held", z.ofHill(0, 4), 40);
        text(z, 0, "q-60");
        due("QUARTER 95", z.ofHill(0, 4), 35);
        z.refill(0);
        due("95, 0, 1", z.then(3, 0, 5), 35);
        z.quarters(1);
        text(z, 0, "q+1");
        due("QUARTER 96", z.ofHill(0, 4), 1);
        due("0, 1", z.then(2, 0, 5), 35 + 1 + 2);
    }

    private static void takings() {
        says("TAKINGS (0 at first; held within -99999 to 99999), by what is GIVEN UP");
        MilkHills x = with(0);
        due("at first", x.count(2), 0);
        x.hill(0, 2, 99);
        for (int i = 0; i < 101; i++) {
            x.giveUp(0);
            x.refill(0);
        }
        due("101 times 990", x.count(2), 99990);
        x.hill(0, 2, 1);
        sour(x, 10);
        due("9 more", x.giveUp(0), 9);
        due("TAKINGS", x.count(2), 99999);
        x.image();
        x.refill(0);
        due("10 more", x.giveUp(0), 10);
        due("held", x.count(2), 99999);
        due("a QUARTER's answer", x.quarters(1), 99999);
        says("TAKINGS (.. held within -99999 to 99999), by WORTH");
        MilkHills y = with(0);
        y.hill(0, 2, 99);
        text(y, 1, "8+(m=9)*2");
        for (int i = 0; i < 101; i++) {
            y.giveUp(0);
            y.refill(0);
        }
        bring(y, 0, 8);
        y.image();
        y.go(0, 3);
        due("8 more", y.quarters(1), 99998);
        y.restore();
        y.become(0, 9);
        y.go(0, 3);
        due("10 more, held", y.quarters(1), 99999);
        says("or IN TOWN (TAKINGS are more by WORTH)");
        MilkHills z = with(0, 9);
        text(z, 1, "s*100+r+m");
        bring(z, 0, 8);
        bring(z, 1, 8);
        sour(z, 60);
        z.carrier(3, 2, 20);
        z.carrier(2, 3, 20);
        z.go(0, 3);
        z.go(1, 2);
        due("none there", z.quarters(1), 0);
        due("the first: sweet, 60", z.quarters(1), 60);
        due("the second: butter, 60, 9", z.quarters(1), 60 + 169);
        due("nothing more", z.quarters(300), 229);
    }

    // ---- terms 2: texts

    private static void gives(String text, int want) {
        MilkHills x = new MilkHills();
        due(text, text(x, 1, text), 1);
        due(text + " with 7, 20, 3", x.law(1, 7, 20, 3), want);
    }

    private static void texts() {
        says("T: A { | A } .. | .. are 1 or 0, what is not 0 being true");
        String[] any = {"0|0", "0|1", "1|0", "5|9", "0|(0-1)", "(0-1)|0", "0|0|0|2", "0|0|0|0"};
        int[] ofAny = {0, 1, 1, 1, 1, 1, 1, 0};
        for (int i = 0; i < any.length; i++) {
            gives(any[i], ofAny[i]);
        }
        says("A: B { & B } .. & .. are 1 or 0, what is not 0 being true");
        String[] all = {"0&0", "0&1", "1&0", "5&2", "1&(0-1)", "(0-1)&1", "2&4&8&0", "2&4&8&1", "0&0|1", "1|0&0"};
        int[] ofAll = {0, 0, 0, 1, 1, 1, 0, 1, 1, 1};
        for (int i = 0; i < all.length; i++) {
            gives(all[i], ofAll[i]);
        }
        says("B: S, or S < S, S = S, S > S");
        String[] compared = {"6<7", "7<7", "8<7", "6=7", "7=7", "8=7", "6>7", "7>7", "8>7", "3+4=s&1", "0-1<0"};
        int[] ofCompared = {1, 0, 0, 0, 1, 0, 0, 0, 1, 1, 1};
        for (int i = 0; i < compared.length; i++) {
            gives(compared[i], ofCompared[i]);
        }
        says("! .. are 1 or 0, what is not 0 being true");
        String[] nots = {"!0", "!1", "!(0-1)", "!9", "!!9", "!!!0", "!0+!0+!0", "!s*7+1"};
        int[] ofNots = {1, 0, 0, 0, 1, 1, 3, 1};
        for (int i = 0; i < nots.length; i++) {
            gives(nots[i], ofNots[i]);
        }
        says("Q: a NUMBER of 1 to 4 digits, a NAME");
        gives("0", 0);
        gives("0000", 0);
        gives("0010", 10);
        gives("9999-9990", 9);
        gives("s", 7);
        gives("r", 20);
        gives("m", 3);
        says("P: Q { * Q, / Q, % Q } .. S: P { + P, - P } (from left to right)");
        gives("2-1-1+5-2", 3);
        gives("100/5*2%7", 5);
        gives("2+3*4-8/2", 10);
        ints();
    }

    private static void ints() {
        says("Ints that wrap");
        MilkHills x = new MilkHills();
        text(x, 1, "s+r");
        due("the most and 1", x.law(1, MAX, 1, 0), 0);
        due("the most and the least", x.law(1, MAX, MIN + 6, 0), 5);
        due("the least and -1", x.law(1, MIN, -1, 0), 999);
        text(x, 1, "s-r");
        due("the least less 1", x.law(1, MIN, 1, 0), 999);
        due("0 less the least", x.law(1, 0, MIN, 0), 0);
        text(x, 1, "s*r+m");
        due("65536 times 65536", x.law(1, 65536, 65536, 4), 4);
        due("the least by -1", x.law(1, MIN, -1, 0), 0);
        due("the most by 2", x.law(1, MAX, 2, 9), 7);
        says("/ cut, % the rest that it leaves, both by 0 are 0");
        text(x, 1, "s/r+m");
        due("7 by 2", x.law(1, 7, 2, 100), 103);
        due("-7 by 2", x.law(1, -7, 2, 100), 97);
        due("7 by -2", x.law(1, 7, -2, 100), 97);
        due("-7 by -2", x.law(1, -7, -2, 100), 103);
        due("7 by 0", x.law(1, 7, 0, 100), 100);
        due("0 by 0", x.law(1, 0, 0, 100), 100);
        due("the least by -1", x.law(1, MIN, -1, MIN + 7), 7);
        text(x, 1, "s%r+m");
        due("7 by 2", x.law(1, 7, 2, 100), 101);
        due("-7 by 2", x.law(1, -7, 2, 100), 99);
        due("7 by -2", x.law(1, 7, -2, 100), 101);
        due("-7 by -2", x.law(1, -7, -2, 100), 99);
        due("7 by 0", x.law(1, 7, 0, 100), 100);
        due("0 by 0", x.law(1, 0, 0, 100), 100);
        due("the least by -1", x.law(1, MIN, -1, 100), 100);
        says("all is worked out");
        gives("1|s/0", 1);
        gives("0&s%0", 0);
        gives("(1|r/0)*5", 5);
    }

    private static void good(String text) {
        MilkHills x = new MilkHills();
        due(text, text(x, 0, text), 1);
        due("THE TAPE behind " + text, x.count(6), 0);
    }

    private static void bad(String text, int place) {
        MilkHills x = new MilkHills();
        text(x, 0, "t+1");
        due(text, text(x, 0, text), -10 - place);
        due("THE TAPE behind " + text, x.count(6), 0);
        due("the one ahead of " + text + " stays", x.law(0, 5, 0, 0), 6);
        due("no ERROR", x.told(1) + x.told(2) + x.told(3) + x.told(4) + x.told(5), 0);
    }

    private static void faults() {
        says("At most 5 of ! and ( are open at once.");
        good("!!!!!t");
        good("(((((t)))))");
        good("!(!(!t))");
        good("!!!!!t+!!!!!q");
        good("((((!t)&!q)))");
        good("(((((t))))+(((q))))");
        good("!!!!!1|!(!(!1))");
        good("(((((t)+!q))))");
        bad("!!!!!!t", 5);
        bad("((((((t))))))", 5);
        bad("!(!(!(t)))", 5);
        bad("!!!!!(t)", 5);
        bad("(((((!t)))))", 5);
        bad("(((((t)+!!q))))", 9);
        bad("(((t)+(!!!q)))", 9);
        says("B: S, or S < S, S = S, S > S (one of them)");
        good("1<2&2=2|3>2");
        good("(1<2)<(2>1)");
        good("(1<2)=1");
        bad("1<2<3", 3);
        bad("1=2>3", 3);
        bad("1>2=3", 3);
        bad("1<(2=3)>4", 7);
        bad("(1<2<3)", 4);
        bad("t=!q<1", 4);
        says("a NUMBER of 1 to 4 digits");
        good("1");
        good("9999");
        good("9999+0000");
        bad("10000", 4);
        bad("1+00000", 6);
        says("No blanks.");
        bad(" t", 0);
        bad("t ", 1);
        bad("t +1", 1);
        bad("t+ 1", 2);
        placesOfFaults();
    }

    private static void placesOfFaults() {
        says("FAULT: the place of the first byte with which no TEXT goes on");
        bad("tt", 1);
        bad("t1", 1);
        bad("1t", 1);
        bad("t(", 1);
        bad("t!", 1);
        bad("t)", 1);
        bad("(t))", 3);
        bad("()", 1);
        bad("(+", 1);
        bad("-1", 0);
        bad("t+-1", 2);
        bad("t||q", 2);
        bad("t&|q", 2);
        bad("t<=q", 2);
        bad("T", 0);
        bad("s", 0);
        bad("t+r", 2);
        bad("t+m", 2);
        bad(")", 0);
        bad("1.5", 1);
        bad("\u0000", 0);
        bad("t\u0000", 1);
        bad("t\u00ff", 1);
        bad("\u0080", 0);
        bad("t:", 1);
        bad("t+:", 2);
        bad("t+/", 2);
        says("how many there are, if it ends too early");
        bad("", 0);
        bad("t+", 2);
        bad("t|", 2);
        bad("t&", 2);
        bad("t<", 2);
        bad("t*", 2);
        bad("!", 1);
        bad("(", 1);
        bad("(t", 2);
        bad("(((((", 5);
        bad("(t<q", 4);
        bad("(t+", 3);
        bad("t+".repeat(25), 50);
        says("bytes, at most 50");
        good("t+".repeat(24) + "tq".substring(0, 1));
        good("1+".repeat(23) + "9999");
        bad("t+".repeat(24) + "tq", 49);
    }

    private static void uses() {
        says("WARM .. held within 0 to 40");
        MilkHills x = new MilkHills();
        text(x, 0, "t");
        due("-1", x.law(0, -1, 0, 0), 0);
        due("0", x.law(0, 0, 0, 0), 0);
        due("40", x.law(0, 40, 0, 0), 40);
        due("41", x.law(0, 41, 0, 0), 40);
        due("the least", x.law(0, MIN, 0, 0), 0);
        due("the most", x.law(0, MAX, 0, 0), 40);
        says("WORTH .. held within 0 to 999");
        text(x, 1, "s");
        due("-1", x.law(1, -1, 0, 0), 0);
        due("0", x.law(1, 0, 0, 0), 0);
        due("999", x.law(1, 999, 0, 0), 999);
        due("1000", x.law(1, 1000, 0, 0), 999);
        due("the least", x.law(1, MIN, 0, 0), 0);
        due("the most", x.law(1, MAX, 0, 0), 999);
        says("without a TEXT t/4");
        MilkHills y = new MilkHills();
        int[] heats = {MIN, -5, -4, 3, 4, 7, 8, 163, 164, MAX};
        int[] fourths = {0, 0, 0, 0, 1, 1, 2, 40, 40, 40};
        for (int i = 0; i < heats.length; i++) {
            due("WARM of " + heats[i], y.law(0, heats[i], 95, 0), fourths[i]);
        }
        says("without a TEXT (s=0)*50+(s=1)*30");
        int[] worth = {0, 50, 30, 0, 0};
        for (int s = -1; s <= 3; s++) {
            due("WORTH of " + s, y.law(1, s, 99, 9), worth[s + 1]);
        }
        says("What a USE gives with its NAMES in order as a, b, c (WARM: a, b).");
        text(y, 0, "t*2+q");
        text(y, 1, "s*100+r*10+m");
        due("WARM", y.law(0, 3, 4, 5), 10);
        due("WORTH", y.law(1, 3, 4, 5), 345);
        due("q as told", y.law(0, -60, 96 + 30, 0), 6);
        due("the other USE's stays", y.law(0, 0, 0, 0), 0);
    }

    // ---- terms 3: relays

    /** CHURN 0 at a HILL, neither SOUR nor SHAKEN; all CARRIERS with a PACE of 1 and no SHAKE. */
    private static MilkHills at(int hill) {
        MilkHills x = with(0, 0);
        bring(x, 0, hill);
        for (int carrier = 0; carrier < 4; carrier++) {
            x.carrier(carrier, 1, 0);
        }
        return x;
    }

    private static void relays() {
        says("it is IN TOWN in n QUARTERS or less .. by n (0 to 60) QUARTERS");
        MilkHills x = with(0);
        due("by 0", x.relays(0, 0, -1), NONE);
        due("by 8", x.relays(0, 8, -1), NONE);
        for (int carrier = 0; carrier < 4; carrier++) {
            x.carrier(carrier, 1 + carrier, 0);
        }
        due("by 8", x.relays(0, 8, -1), NONE);
        due("by 9", x.relays(0, 9, -1), 18);
        for (int carrier = 0; carrier < 4; carrier++) {
            x.carrier(carrier, carrier == 3 ? 6 : 7, 0);
        }
        due("by 53, 6 a HILL", x.relays(0, 53, -1), NONE);
        warm(x, 1);
        due("by 54", x.relays(0, 54, -1), 54);
        dueAll("the way by 54", way(x, 0, 54), 3, 3, 3, 3, 3, 3, 3, 3, 3);
        x.carrier(3, 7, 0);
        due("by 60, 7 a HILL", x.relays(0, 60, -1), NONE);
        bring(x, 0, 1);
        for (int carrier = 0; carrier < 4; carrier++) {
            x.carrier(carrier, 7, 0);
        }
        warm(x, 1);
        due("by 55, 8 HILLS", x.relays(0, 55, -1), NONE);
        due("by 56, 8 HILLS", x.relays(0, 56, -1), 56);
        due("by 60, 8 HILLS", x.relays(0, 60, -1), 56);
        says("one waits 0 to 2 QUARTERS");
        MilkHills y = at(8);
        y.hill(8, 1, 1);
        text(y, 0, "(q<10)*9");
        due("2 are enough", y.relays(0, 60, -1), 0);
        dueAll("so it waits 2", way(y, 0, 60), 20);
        due("by 2", y.relays(0, 2, -1), 9);
        text(y, 0, "(q<11)*9");
        due("2 are not enough", y.relays(0, 60, -1), 9);
        dueAll("so it goes at once", way(y, 0, 60), 0);
        text(y, 0, "(q<9)*9");
        dueAll("it waits 1", way(y, 0, 60), 10);
        roomsOfRelays();
    }

    private static void roomsOfRelays() {
        says("(in the BROOK, if its HILL has a ROOM of 1 at least, whoever is there; else it RESTS)");
        MilkHills x = at(8);
        bring(x, 1, 8);
        text(x, 0, "(q=16)*9+(q=17)*5+1");
        due("QUARTER", x.count(1), 16);
        due("ROOM 0: it RESTS", x.relays(0, 60, -1), 10);
        x.hill(8, 1, 1);
        due("ROOM 1", x.relays(0, 60, -1), 1);
        x.brook(1);
        due("ROOM 1, full by another", x.relays(0, 60, -1), 1);
        x.rest(1);
        x.brook(0);
        due("ROOM 1, it is in it", x.relays(0, 60, -1), 1);
        x.hill(8, 1, 3);
        due("ROOM 3", x.relays(0, 60, -1), 1);
        says("and sweet in each (SOUR less than TURNS)");
        MilkHills y = at(7);
        warm(y, 25);
        y.quarters(1);
        due("SOUR", y.ofChurn(0, 5), 25);
        warm(y, 37);
        due("99 IN TOWN", y.relays(0, 60, -1), 99);
        y.become(0, 13);
        due("101 IN TOWN of 80", y.relays(0, 60, -1), NONE);
        y.become(0, 0);
        warm(y, 1);
        y.quarters(1);
        warm(y, 37);
        due("100 IN TOWN", y.relays(0, 60, -1), NONE);
        y.become(0, 50);
        due("SEALED: 26 and 17 twice", y.relays(0, 60, -1), 60);
        says("and sweet in each (SHAKEN less than 60)");
        MilkHills z = at(0);
        shake(z, 3, 13);
        bring(z, 0, 7);
        z.carrier(0, 1, 10);
        for (int carrier = 1; carrier < 4; carrier++) {
            z.carrier(carrier, 2, 20);
        }
        due("SHAKEN 59 IN TOWN", z.relays(0, 60, -1), 0);
        z.carrier(0, 1, 11);
        due("SHAKEN 61 IN TOWN", z.relays(0, 60, -1), NONE);
        z.become(0, 40);
        due("RUNNING: 39 and 9 twice", z.relays(0, 60, -1), 0);
        z.become(0, 30);
        due("CREAMED: 39 and 22 twice", z.relays(0, 60, -1), NONE);
        shake(z, 1, 0);
        z.carrier(3, 2, 20);
        z.carrier(0, 1, 10);
        due("CREAMED: 39 and 20", z.relays(0, 60, -1), 0);
        z.carrier(0, 1, 11);
        due("CREAMED: 39 and 22", z.relays(0, 60, -1), NONE);
        mostSour();
    }

    private static void mostSour() {
        says("and sweet in each (RUNNING with m 9 TURNS at 125, the most of all)");
        MilkHills x = with(49);
        for (int carrier = 0; carrier < 4; carrier++) {
            x.carrier(carrier, 1, 0);
        }
        text(x, 0, "t");
        for (int hill = 0; hill <= 8; hill++) {
            x.hill(hill, 0, 10);
        }
        x.hill(4, 0, 17);
        due("8 times 13, and 20", x.relays(0, 60, -1), 124);
        dueAll("all alike", way(x, 0, 60), 0, 0, 0, 0, 0, 0, 0, 0, 0);
        x.hill(4, 0, 18);
        due("8 times 13, and 21", x.relays(0, 60, -1), NONE);
        due("HILL", x.cellar(0, 60, 0), 4);
        due("SOUR with it", x.cellar(0, 60, 1), 107);
        x.hill(4, 0, 17);
        x.quarters(1);
        due("13 ahead", x.relays(0, 60, -1), NONE);
        x.hill(4, 0, 4);
        due("13 ahead, 8 times 13, and 7", x.relays(0, 60, -1), 124);
    }

    private static void firstRelays() {
        says("of several the first (by HILLS in order: less waiting, then the less CARRIER)");
        MilkHills x = at(0);
        for (int hill = 0; hill <= 8; hill++) {
            x.hill(hill, 1, 1);
        }
        dueAll("all alike", way(x, 0, 60), 0, 0, 0, 0, 0, 0, 0, 0, 0);
        x.carrier(0, 1, 20);
        dueAll("CARRIER 0 while it is no butter", way(x, 0, 60), 0, 0, 1, 1, 1, 1, 1, 1, 1);
        x.carrier(1, 1, 10);
        dueAll("then CARRIER 1, then 2", way(x, 0, 60), 0, 0, 1, 2, 2, 2, 2, 2, 2);
        MilkHills y = at(7);
        y.hill(7, 1, 1);
        y.hill(8, 1, 1);
        text(y, 0, "(q<9)*9");
        dueAll("at once AT HILL 7 has more SOUR", way(y, 0, 60), 20, 0);
        text(y, 0, "(q<8)*5");
        dueAll("1 AT HILL 7 is enough", way(y, 0, 60), 10, 0);
        text(y, 0, "(q=8)*5");
        dueAll("rather wait AT HILL 8", way(y, 0, 60), 0, 10);
        y.carrier(0, 2, 0);
        dueAll("less waiting ahead of the less CARRIER", way(y, 0, 60), 1, 10);
        y.carrier(0, 1, 0);
        text(y, 0, "(q=7)+(q=8)");
        dueAll("as early as can be", way(y, 0, 60), 20, 0);
        firstOfUnlike();
        says("(QUARTERS go on from now.)");
        MilkHills z = at(8);
        z.quarters(87);
        due("QUARTER", z.count(1), 95);
        text(z, 0, "(q=95)*9+(q=0)*4+(q=1)");
        due("QUARTER 95", z.relays(0, 1, -1), 9);
        z.hill(8, 1, 1);
        due("QUARTER 96 is 0", z.relays(0, 2, -1), 4);
        due("QUARTER 97 is 1", z.relays(0, 3, -1), 1);
        says("NONE: there are none; it is not AT that HILL by them.");
        MilkHills w = at(3);
        for (int hill = 0; hill <= 8; hill++) {
            due("hill " + hill, w.relays(0, 60, hill), hill < 3 ? NONE : 0);
        }
        due("none: SOUR", w.relays(0, 5, -1), NONE);
        due("none: a HILL", w.relays(0, 5, 3), NONE);
        due("there are some", w.relays(0, 6, 3), 0);
    }

    /** Of CARRIERS of unlike PACES, what is best AT HILL 8 is another thing by each. */
    private static void firstOfUnlike() {
        MilkHills x = at(7);
        for (int carrier = 1; carrier < 4; carrier++) {
            x.carrier(carrier, 3, 0);
        }
        x.hill(7, 1, 1);
        x.hill(8, 1, 1);
        text(x, 0, "(q=7|q=9|q=10)*9");
        due("SOUR", x.relays(0, 60, -1), 0);
        dueAll("waits in QUARTER 7, and in 9 and 10", way(x, 0, 60), 10, 20);
        MilkHills y = at(7);
        y.carrier(0, 1, 2);
        y.carrier(1, 3, 0);
        y.carrier(2, 9, 20);
        y.carrier(3, 9, 20);
        y.hill(7, 0, 0);
        y.hill(8, 0, 9);
        text(y, 0, "t*(q<10)");
        dueAll("rather slowly than waiting", way(y, 0, 60), 1, 0);
        dueAll("rather waiting, by 4", way(y, 0, 4), 1, 0);
        dueAll("in haste, by 3", way(y, 0, 3), 0, 0);
        due("SOUR by 4", y.relays(0, 4, -1), 0);
        due("SOUR by 3", y.relays(0, 3, -1), 9);
        due("SOUR by 2", y.relays(0, 2, -1), 9);
    }

    private static void straight() {
        says("TURNS AT: the HILL which it left last when its STATE wasn't sweet first (behind a QUARTER); -1");
        MilkHills x = at(7);
        warm(x, 33);
        due("66", x.turnsAt(0, 0), -1);
        warm(x, 40);
        x.quarters(1);
        warm(x, 29);
        due("98 IN TOWN", x.turnsAt(0, 0), -1);
        warm(x, 30);
        due("100 IN TOWN", x.turnsAt(0, 0), 8);
        x.carrier(1, 2, 0);
        due("100 AT HILL 8", x.turnsAt(0, 1), 7);
        warm(x, 29);
        due("98 AT HILL 8", x.turnsAt(0, 1), 8);
        MilkHills y = at(0);
        warm(y, 0);
        y.carrier(2, 3, 20);
        due("SHAKEN 60 AT HILL 1", y.turnsAt(0, 2), 0);
        y.carrier(2, 3, 10);
        due("SHAKEN 60 AT HILL 2", y.turnsAt(0, 2), 1);
        y.carrier(2, 3, 2);
        due("SHAKEN 54", y.turnsAt(0, 2), -1);
        says("it goes on .. (RESTS or in the BROOK) .. without waiting, as QUARTERS go on");
        y.quarters(95);
        y.hill(0, 1, 1);
        y.brook(0);
        text(y, 0, "(q=95)*40+(q=0)*40+(q=1)*20");
        due("QUARTERS 95, 96, 97", y.turnsAt(0, 2), 0);
        due("one HILL a QUARTER", y.turnsAt(0, 0), 2);
        text(y, 0, "(q=95)*40+(q=0)*40+(q=1)*19");
        due("99", y.turnsAt(0, 0), -1);
        says("BY WHOM: .. from a told QUARTER on (0 to 9999), comes to the TOWN with a told SOUR");
        MilkHills z = with(0);
        due("none with -1", z.byWhom(0, 0, -1), 0);
        due("none with 0", z.byWhom(0, 0, 0), 0);
        warm(z, 0);
        due("all with 0", z.byWhom(0, 0, 0), 15);
        text(z, 0, "t/4");
        due("from QUARTER 0", z.byWhom(0, 0, 18), 1);
        due("from QUARTER 9999", z.byWhom(0, 9999, 72), 8);
        z.carrier(3, 2, 0);
        due("two", z.byWhom(0, 0, 36), 10);
        text(z, 0, "(q=15)*7");
        due("9999 is 15 of its day", z.byWhom(0, 9999, 7), 15);
        due("9998 is 14", z.byWhom(0, 9998, 7), 15);
        due("10000 is 16: only a day behind", z.byWhom(0, 16, 7), 0);
        due("by 9 QUARTERS from 7 on", z.byWhom(0, 7, 7), 15);
        due("by 9 QUARTERS from 6 on: not by the quickest", z.byWhom(0, 6, 7), 14);
        says("BY WHOM: .. a CHURN as new (of its KIND and m)");
        MilkHills w = with(19, 0);
        bring(w, 0, 9);
        w.thunder();
        w.go(1, 0);
        w.quarters(1);
        warm(w, 2);
        due("IN TOWN, GOATS with m 9", w.byWhom(0, 0, 45), 9);
        due("on its WAY", w.byWhom(1, 0, 18), 9);
        w.quarters(1);
        w.giveUp(1);
        due("GIVEN UP", w.byWhom(1, 0, 36), 2);
    }

    private static void given() {
        says("PRICE times (100 less SOUR, 0 at least) by 10 (cut)");
        int[] sours = {0, 1, 90, 91, 98, 99, 100, 101, 9999};
        int[] gains = {990, 980, 99, 89, 19, 9, 0, 0, 0};
        for (int i = 0; i < sours.length; i++) {
            MilkHills x = with(0);
            sour(x, sours[i]);
            x.hill(0, 2, 99);
            text(x, 1, "0");
            due("how much with SOUR " + sours[i], x.bestGiven(0, 0, 1), gains[i]);
            due("given up with SOUR " + sours[i], x.giveUp(0), gains[i]);
            due("TAKINGS", x.count(2), gains[i]);
        }
        MilkHills cheap = with(0, 0);
        cheap.hill(0, 2, 0);
        due("PRICE 0", cheap.giveUp(1), 0);
        cheap.hill(0, 2, 1);
        sour(cheap, 91);
        due("9 by 10", cheap.giveUp(0), 0);
        says("of all HILLS that it is AT (that now, too), and the TOWN .. of several the first");
        MilkHills x = at(6);
        text(x, 1, "100");
        dueAll("all alike", new int[] {x.bestGiven(0, 0, 0), x.bestGiven(0, 0, 1)}, 6, 100);
        x.hill(8, 2, 11);
        x.hill(5, 2, 99);
        dueAll("HILL 8", new int[] {x.bestGiven(0, 0, 0), x.bestGiven(0, 0, 1)}, 8, 110);
        x.hill(7, 2, 11);
        dueAll("HILL 7", new int[] {x.bestGiven(0, 0, 0), x.bestGiven(0, 0, 1)}, 7, 110);
        text(x, 1, "110");
        dueAll("the TOWN has no more", new int[] {x.bestGiven(0, 0, 0), x.bestGiven(0, 0, 1)}, 7, 110);
        text(x, 1, "111");
        dueAll("the TOWN has more", new int[] {x.bestGiven(0, 0, 0), x.bestGiven(0, 0, 1)}, 9, 111);
        givenOnTheWay(x);
    }

    /** The same CHURN goes on: AT HILL 6, in QUARTER 6, neither SOUR nor SHAKEN. */
    private static void givenOnTheWay(MilkHills x) {
        says("BEST GIVEN UP: STRAIGHT by a CARRIER (as QUARTERS go on)");
        text(x, 1, "0");
        text(x, 0, "(q=7)*30+(q=8)*20");
        x.hill(6, 2, 0);
        x.hill(7, 2, 50);
        x.hill(8, 2, 72);
        dueAll("SOUR 30 AT HILL 8", new int[] {x.bestGiven(0, 0, 0), x.bestGiven(0, 0, 1)}, 8, 504);
        x.hill(8, 2, 71);
        dueAll("SOUR 0 AT HILL 7", new int[] {x.bestGiven(0, 0, 0), x.bestGiven(0, 0, 1)}, 7, 500);
        text(x, 1, "r*10+1");
        dueAll("SOUR 50 IN TOWN", new int[] {x.bestGiven(0, 0, 0), x.bestGiven(0, 0, 1)}, 9, 501);
        says("at a HILL .. (sweet there, or not), in the TOWN WORTH");
        warm(x, 30);
        x.hill(8, 2, 99);
        x.hill(7, 2, 0);
        x.hill(6, 2, 39);
        x.carrier(0, 1, 20);
        x.carrier(1, 1, 0);
        text(x, 1, "(s=1)*397");
        dueAll("SOUR 60 AT HILL 8", new int[] {x.bestGiven(0, 0, 0), x.bestGiven(0, 0, 1)}, 9, 397);
        text(x, 1, "(s=1)*396");
        dueAll("sweet there", new int[] {x.bestGiven(0, 0, 0), x.bestGiven(0, 0, 1)}, 8, 396);
        x.become(0, 10);
        sour(x, 19);
        x.become(0, 0);
        warm(x, 30);
        dueAll("SOUR 79", new int[] {x.bestGiven(0, 1, 0), x.bestGiven(0, 1, 1)}, 6, 315);
        text(x, 1, "(s=2)*r");
        x.become(0, 10);
        dueAll("whey of SOUR 109 in town", new int[] {x.bestGiven(0, 1, 0), x.bestGiven(0, 1, 1)}, 6, 315);
        x.hill(6, 2, 1);
        x.hill(8, 2, 53);
        dueAll("whey AT HILL 8 with SOUR 79", new int[] {x.bestGiven(0, 1, 0), x.bestGiven(0, 1, 1)}, 8, 111);
    }

    private static void cellars() {
        says("CELLAR: the HILL (0 to 8) with a HEAT of 0 .. the least SOUR; of several the least.");
        MilkHills x = at(0);
        text(x, 0, "t");
        due("all alike", x.cellar(0, 60, 0), 0);
        due("8 HILLS of 8", x.cellar(0, 60, 1), 64);
        for (int hill = 0; hill <= 8; hill++) {
            x.hill(hill, 0, 9);
            due("HILL " + hill, x.cellar(0, 60, 0), hill);
            due("SOUR", x.cellar(0, 60, 1), 64);
            x.hill(hill, 0, 8);
        }
        x.hill(3, 0, 10);
        x.hill(7, 0, 10);
        due("of two the least", x.cellar(0, 60, 0), 3);
        due("in 9 QUARTERS", x.cellar(0, 9, 1), 66);
        due("in 8 QUARTERS", x.cellar(0, 8, 1), NONE);
        says("the HILL (0 to 8) .. those behind it, too");
        MilkHills y = at(8);
        text(y, 0, "5+(t=0)*2");
        due("a cellar AT HILL 8 makes more", y.cellar(0, 60, 0), 0);
        due("SOUR", y.cellar(0, 60, 1), 5);
        text(y, 0, "t");
        due("HILL 8", y.cellar(0, 60, 0), 8);
        text(y, 0, "t+3");
        due("SOUR of a HEAT of 0", y.cellar(0, 60, 1), 3);
        text(y, 0, "t");
        y.hill(8, 0, 0);
        due("it is cold already", y.cellar(0, 60, 0), 0);
        says("NONE: with none there are RELAYS.");
        MilkHills z = at(7);
        text(z, 0, "t*2");
        z.hill(7, 0, 20);
        z.hill(8, 0, 20);
        due("by 1 QUARTER", z.cellar(0, 1, 0), NONE);
        due("by 2 QUARTERS", z.cellar(0, 2, 0), 7);
        z.carrier(0, 3, 20);
        z.carrier(1, 3, 0);
        z.carrier(2, 3, 0);
        z.carrier(3, 3, 0);
        due("120 without one", z.relays(0, 60, -1), NONE);
        due("120 with one", z.cellar(0, 60, 0), NONE);
        z.carrier(3, 2, 0);
        due("160 without one", z.relays(0, 60, -1), NONE);
        due("80 with one", z.cellar(0, 60, 1), 80);
        z.become(0, 10);
        due("80 with one, GOATS", z.cellar(0, 60, 1), NONE);
        z.become(0, 41);
        due("80 with one, RUNNING of 85", z.cellar(0, 60, 1), 80);
        says("CELLAR .. (nothing is changed by it)");
        due("HEAT", z.ofHill(7, 0), 20);
        due("HEAT", z.ofHill(8, 0), 20);
    }

    private static void odds() {
        says("ODDS of none in n (0 to 12) QUARTERS, as a fraction in lowest terms (0 is 0 by 1), with P (0 to 16) of 16");
        MilkHills x = new MilkHills();
        for (int p = 0; p <= 16; p++) {
            for (int n = 0; n <= 12; n++) {
                long above = 1;
                long below = 1;
                for (int i = 0; i < n; i++) {
                    above *= 16 - p;
                    below *= 16;
                }
                long a = above;
                long b = below;
                while (b != 0) {
                    long rest = a % b;
                    a = b;
                    b = rest;
                }
                due(p + ", " + n + " above", x.odds(p, n, 0), above / a);
                due(p + ", " + n + " below", x.odds(p, n, 1), below / a);
            }
            x = new MilkHills();
        }
        due("none of 16 in 12", x.odds(16, 12, 0), 0);
        due("0 is 0 by 1", x.odds(16, 12, 1), 1);
        due("16 in none", x.odds(16, 0, 0), 1);
        due("by 1", x.odds(16, 0, 1), 1);
        due("15 by 16, 12 times", x.odds(1, 12, 1), 281474976710656L);
        says("(in longs, too)");
        due("BEYOND", x.odds(1, 13, 0), -1000000001L);
    }

    private static void days() {
        says("A DAY by draws is 16 QUARTERS: ahead of each a draw .. n (1 to 20) DAYS");
        MilkHills x = with(0);
        int z = 1;
        for (int i = 0; i < 16 * 21; i++) {
            z = z * 1103515245 + 12345;
            if (i == 15) {
                x.days(1);
                due("QUARTER behind one", x.count(1), 16);
                due("z behind one", x.count(9), z);
            }
        }
        x.days(20);
        due("QUARTER behind 21", x.count(1), 16 * 21);
        due("z behind 21", x.count(9), z);
        says("STATE: QUARTER would be above 9999 (DAYS)");
        MilkHills y = new MilkHills();
        for (int i = 0; i < 33; i++) {
            y.quarters(300);
        }
        y.quarters(83);
        due("2 from 9983", y.days(2), STATE);
        due("1 from 9983", y.days(1), 0);
        due("QUARTER", y.count(1), 9999);
        due("1 more", y.days(1), STATE);
        y.quarters(1);
        says("its rest by 16 is 0: THUNDER: SOUR of all that aren't GIVEN UP or IN TOWN is 30 more (ahead of the QUARTER)");
        for (int seed : new int[] {0, 7, 12345, -1, MIN, MAX, 99}) {
            MilkHills w = with(0);
            warm(w, 0);
            w.seed(seed);
            int strikes = 0;
            int v = seed;
            for (int i = 0; i < 16 * 20; i++) {
                v = v * 1103515245 + 12345;
                strikes += (v >>> 8) % 16 == 0 ? 1 : 0;
            }
            w.days(20);
            due("SOUR with the seed " + seed, w.ofChurn(0, 5), 30 * strikes);
            due("z", w.count(9), v);
        }
        thunder();
    }

    private static void thunder() {
        says("THUNDER now: how many it reached.");
        MilkHills x = new MilkHills();
        due("none", x.thunder(), 0);
        for (int i = 0; i < 6; i++) {
            x.churn(0);
            due("all", x.thunder(), i + 1);
        }
        x.hill(0, 1, 1);
        x.brook(0);
        x.go(1, 3);
        due("in the BROOK, on its WAY", x.thunder(), 6);
        due("SOUR in the BROOK", x.ofChurn(0, 5), 30 * 7);
        due("SOUR on its WAY", x.ofChurn(1, 5), 30 * 6);
        x.giveUp(2);
        due("GIVEN UP", x.thunder(), 5);
        due("SOUR of that", x.ofChurn(2, 5), 30 * 5);
        bring(x, 3, 9);
        due("IN TOWN", x.thunder(), 4);
        due("SOUR of that", x.ofChurn(3, 5), 30 * 5);
        due("z stays", x.count(9), 1);
        due("QUARTER stays", x.count(1), 9);
        says("z is told (1 at first); each draw makes it z * 1103515245 + 12345 (an int) .. z becomes v (any number)");
        MilkHills y = new MilkHills();
        due("at first", y.seed(MIN), 1);
        due("the least", y.seed(MAX), MIN);
        due("the most", y.seed(BEYOND), MAX);
        due("as an ERROR looks", y.seed(0), BEYOND);
        due("0", y.count(9), 0);
        due("none is told", y.told(1), 0);
    }

    private static void voices() {
        says("VOICES of a CHURN, with a number x (ints that go round)");
        MilkHills x = with(9, 14, 29, 30, 43, 58);
        due("fills: the most and n", x.voice(1, 0, MAX), MIN);
        due("fills: n is 0", x.voice(0, 0, MAX), MAX);
        due("fills: the least", x.voice(0, 0, MIN), MIN);
        due("shakes: twice the most", x.voice(0, 1, MAX), -2);
        due("shakes: twice the least", x.voice(0, 1, MIN), 0);
        due("cools: the least less 9", x.voice(0, 2, MIN), MAX - 8);
        due("LIDDED fills three times the most and 2", x.voice(2, 0, MAX), (MIN + 1) * 3);
        due("CREAMED cools: less the least", x.voice(3, 2, MIN), MIN);
        due("RUNNING shakes the most and 1", x.voice(4, 1, MAX), (MIN + 4) * 2 - (1 - 3));
        due("SEALED tells", x.voice(5, 3, MAX), (((MIN + 4) * 3 * 2) ^ (MAX - 8)) - 7 * 3);
        says("THE TRACE: the numbers of BODIES of the latest voice(), as they began .. NONE: there is none such.");
        due("how many", x.count(8), 8);
        int[] bodies = {60, 13, 11, 30, 10, 12, 30, 10};
        for (int i = 0; i < 8; i++) {
            due("body " + i, x.trace(i), bodies[i]);
        }
        due("behind the last", x.trace(8), NONE);
        due("ahead of the first", x.trace(-1), NONE);
        x.voice(0, 0, 1);
        due("of the latest", x.count(8), 1);
        due("of the latest", x.trace(0), 10);
        due("behind it", x.trace(1), NONE);
        due("refused", x.voice(0, 4, 1), BEYOND);
        due("that leaves it", x.trace(0), 10);
        MilkHills old = with(0, 0, 0, 0, 0, 64);
        due("the longest", old.voice(5, 3, 10), 30 - (30 ^ (-(10 - 4) ^ 5)));
        due("how many", old.count(8), 9);
        due("the last", old.trace(8), 12);
        due("behind the last", old.trace(9), NONE);
    }

    // ---- promises 2, 8 to 13

    private static void orders() {
        says("ROOM (1; not below how many are in it) .. STATE: more are in the BROOK. .. A CHURN comes into the BROOK: FULL.");
        MilkHills x = with(0, 0, 0, 0, 0, 0);
        due("no ROOM", x.brook(0), FULL);
        x.hill(0, 1, 3);
        for (int i = 0; i < 3; i++) {
            due("how many are in it", x.brook(i), i + 1);
        }
        due("a fourth", x.brook(3), FULL);
        due("ROOM 2", x.hill(0, 1, 2), STATE);
        due("ROOM 3", x.hill(0, 1, 3), 3);
        due("ROOM 0 elsewhere", x.hill(1, 1, 0), 0);
        says("A CHURN comes out of the BROOK, and RESTS: how many are in it.");
        for (int i = 0; i < 3; i++) {
            due("how many are in it", x.rest(i), 2 - i);
            due("how", x.ofChurn(i, 3), 0);
            due("ROOM for those left", x.hill(0, 1, 2 - i), 3 - i);
        }
        due("again", x.rest(0), STATE);
        says("how many are in its BROOK (of that HILL alone)");
        bring(x, 0, 1);
        x.hill(0, 1, 1);
        x.hill(1, 1, 1);
        due("AT HILL 1", x.brook(0), 1);
        due("AT HILL 0", x.brook(1), 1);
        due("AT HILL 0, full", x.brook(2), FULL);
        due("in it AT HILL 1", x.ofHill(1, 3), 1);
        says("A CHURN is GIVEN UP where it RESTS, or is in the BROOK (and RESTS then)");
        due("from the BROOK", x.giveUp(1), 100);
        due("how", x.ofChurn(1, 3), 0);
        due("the BROOK is empty", x.ofHill(0, 3), 0);
        due("so there is ROOM", x.brook(2), 1);
        due("it can't come into it", x.brook(1), STATE);
        says("A CHURN goes on by a CARRIER: QUARTERS LEFT (from the BROOK, too)");
        due("LEFT", x.go(2, 1), 2);
        due("the BROOK is empty", x.ofHill(0, 3), 0);
        says("A CHURN is as new, AT HILL 0 (KIND and m stay): how it was.");
        due("on its WAY", x.refill(2), 2);
        due("in the BROOK", x.refill(0), 1);
        due("the BROOK AT HILL 1 is empty", x.ofHill(1, 3), 0);
        due("GIVEN UP", x.refill(1), 0);
        bring(x, 3, 9);
        x.become(3, 69);
        due("IN TOWN", x.refill(3), 3);
        dueAll("as new", ofChurn(x, 3), 6, 9, 0, 0, 0, 0, 0, 0, 100, -1);
        dueAll("as new", ofChurn(x, 2), 0, 0, 0, 0, 0, 0, 0, 0, 100, -1);
        kindsAs();
    }

    private static void kindsAs() {
        says("A CHURN as one of a KIND: m. KIND: it isn't of that KIND, nor of one under it.");
        String[] are = {"0", "01", "02", "03", "014", "025", "036"};
        for (int kind = 0; kind <= 6; kind++) {
            MilkHills x = with(10 * kind + 9);
            for (int as = 0; as <= 6; as++) {
                boolean is = are[kind].indexOf('0' + as) >= 0;
                due(kind + " as " + as, x.as(0, as), is ? 9 : -1000000005);
            }
        }
        says("A CHURN becomes one of a KIND, with m (km): the KIND that it was. (All else stays.)");
        MilkHills x = with(35);
        x.carrier(2, 3, 2);
        x.go(0, 2);
        x.quarters(1);
        due("km 69", x.become(0, 69), 3);
        dueAll("all", ofChurn(x, 0), 6, 9, 0, 2, 2, 2, 4, 0, 100, 2);
        due("km 0", x.become(0, 0), 6);
        dueAll("all", ofChurn(x, 0), 0, 0, 0, 2, 2, 2, 4, 0, 100, 2);
    }

    // ---- promises 14, 15

    private static void tape() {
        says("The n lowest bytes (1 .. 8) of a word, the lowest first, come to THE TAPE: how many there are.");
        for (int n = 1; n <= 8; n++) {
            MilkHills x = new MilkHills();
            due("how many", x.feed(0x2A2A2A2A2A2A2A31L, n), n);
            due("1, then *", x.text(0), n == 1 ? 1 : n == 2 ? -12 : -12);
        }
        MilkHills x = new MilkHills();
        due("eight", x.feed(0x312B312B312B3131L, 8), 8);
        due("11+1+1+1", x.text(0), 1);
        due("11+1+1+1", x.law(0, 0, 0, 0), 14);
        x.feed(0xB100000000000031L, 1);
        due("bits above don't matter", x.text(0), 1);
        x.feed(0xB12B312B312B3131L, 8);
        due("the highest byte is 177", x.text(0), -17);
        says("THE TAPE (bytes, at most 50) .. FULL.");
        MilkHills y = new MilkHills();
        for (int i = 0; i < 6; i++) {
            y.feed(0x2B312B312B312B31L, 8);
        }
        due("3 more", y.feed(0x312B31, 3), FULL);
        due("how many", y.count(6), 48);
        due("1 more", y.feed('1', 1), 49);
        due("2 more", y.feed('1', 2), FULL);
        due("1 more", y.feed('1', 1), 50);
        due("1 more", y.feed('1', 1), FULL);
        due("24 and 11", y.text(0), 1);
        due("24 and 11", y.law(0, 0, 0, 0), 35);
        due("room again", y.feed(0, 8), 8);
        says("BEYOND (THE TAPE stays).");
        MilkHills z = new MilkHills();
        z.feed('q', 1);
        due("use -1", z.text(-1), BEYOND);
        due("use 2", z.text(2), BEYOND);
        due("how many", z.count(6), 1);
        due("use 0", z.text(0), 1);
        due("q", z.law(0, 0, 9, 0), 9);
        says("-10 less the FAULT (no ERROR; the one ahead stays; THE TAPE is empty, too).");
        due("empty", z.text(0), -10);
        due("empty, of the other", z.text(1), -10);
        due("q still", z.law(0, 0, 9, 0), 9);
        due("told", z.told(1), 2);
        says("is the TEXT of a USE (0, 1), in place of one ahead: 1.");
        due("another", text(z, 0, "t"), 1);
        due("t now", z.law(0, 8, 9, 0), 8);
        due("of the other", text(z, 1, "m"), 1);
        due("m", z.law(1, 1, 2, 3), 3);
        due("t still", z.law(0, 8, 9, 0), 8);
    }

    // ---- promises 30 to 34

    private static void sheets() {
        says("SHEETS 0 .. 3 are rows of 8, 16, 32 bits, at most 40 numbers, or missing (as at first).");
        MilkHills x = new MilkHills();
        for (int sheet = 0; sheet < 4; sheet++) {
            due("missing", x.judge(sheet), NONE);
            for (int bits : new int[] {8, 16, 32}) {
                due("none", x.sheet(sheet, bits, 0), 1);
                due("of none", x.put(sheet, 0, 1), BEYOND);
                due("empty", x.judge(sheet), -1);
                due("40", x.sheet(sheet, bits, 40), 1);
                due("the last", x.put(sheet, 39, 1), 1);
                due("beyond it", x.put(sheet, 40, 1), BEYOND);
                due("41", x.sheet(sheet, bits, 41), BEYOND);
                due("-1", x.sheet(sheet, bits, -1), STATE);
                due("it stayed", x.put(sheet, 39, 1), 1);
            }
        }
        says("0: it is missing, n doesn't matter: 1.");
        for (int n : new int[] {0, -1, 41, MIN, MAX}) {
            x.sheet(2, 8, 1);
            due("n " + n, x.sheet(2, 0, n), 1);
            due("missing", x.judge(2), NONE);
        }
        says("A SHEET has n numbers, all 0");
        MilkHills y = with(0, 0, 0);
        y.sheet(0, 32, 3);
        for (int i = 0; i < 3; i++) {
            y.put(0, i, -1);
        }
        due("not so", y.judge(0), 0);
        y.sheet(0, 8, 3);
        due("all 0", y.judge(0), -1);
        y.put(0, 2, 1);
        y.sheet(0, 8, 2);
        y.sheet(0, 8, 3);
        due("all 0 again", y.judge(0), -1);
        says("Number i of a SHEET becomes v (its lowest bits): 1.");
        int[] bits = {8, 16};
        for (int i = 0; i < 2; i++) {
            MilkHills z = new MilkHills();
            int round = 1 << bits[i];
            z.sheet(0, bits[i], 9);
            int[] vs = {40, round, round + 1, 7 * round + 40, -round, -round + 3, MIN, 1 - MAX - 2 + round};
            int[] heats = {40, 0, 1, 40, 0, 3, 0, 0};
            for (int k = 0; k < vs.length; k++) {
                due("put", z.put(0, k, vs[k]), 1);
            }
            due("heats", z.heats(0), 9);
            for (int k = 0; k < vs.length; k++) {
                due("lowest " + bits[i] + " bits of " + vs[k], z.ofHill(k, 0), heats[k]);
            }
            for (int v : new int[] {-1, 41, round - 1, MAX}) {
                z.put(0, 1, v);
                due("not 0 to 40: " + v, z.heats(0), 1);
            }
        }
        MilkHills w = new MilkHills();
        w.sheet(0, 32, 2);
        for (int v : new int[] {256, 65536, 65536 + 40, MIN, -1, MAX}) {
            w.put(0, 1, v);
            due("32 bits of " + v, w.heats(0), 1);
        }
    }

    private static int[] row(MilkHills x, int sheet) {
        int[] row = new int[x.heats(sheet)];
        for (int i = 0; i < row.length; i++) {
            row[i] = x.ofHill(i, 0);
        }
        return row;
    }

    private static MilkHills twoSheets() {
        MilkHills x = new MilkHills();
        x.sheet(0, 16, 7);
        x.sheet(1, 16, 4);
        for (int i = 0; i < 7; i++) {
            x.put(0, i, i + 1);
        }
        return x;
    }

    private static void moves() {
        says("n numbers .. come to another one (or the same), from its number j on, as they all were: n.");
        MilkHills x = twoSheets();
        due("to the right", x.move(0, 0, 0, 1, 6), 6);
        dueAll("they", row(x, 0), 1, 1, 2, 3, 4, 5, 6);
        MilkHills y = twoSheets();
        due("to the left", y.move(0, 1, 0, 0, 6), 6);
        dueAll("they", row(y, 0), 2, 3, 4, 5, 6, 7, 7);
        due("onto themselves", y.move(0, 0, 0, 0, 7), 7);
        dueAll("they", row(y, 0), 2, 3, 4, 5, 6, 7, 7);
        MilkHills z = twoSheets();
        due("the last four to all of another", z.move(0, 3, 1, 0, 4), 4);
        dueAll("they", row(z, 1), 4, 5, 6, 7);
        dueAll("those stay", row(z, 0), 1, 2, 3, 4, 5, 6, 7);
        due("back", z.move(1, 0, 0, 0, 4), 4);
        dueAll("they", row(z, 0), 4, 5, 6, 7, 5, 6, 7);
        due("the last", z.move(1, 3, 0, 6, 1), 1);
        due("none", z.move(0, 0, 1, 0, 0), 0);
        due("none, behind the last", z.move(0, 7, 1, 4, 0), 0);
        dueAll("none came", row(z, 1), 4, 5, 6, 7);
        says("BEYOND: n, i, or j is below 0, or they don't stand there.");
        int[][] rows = {{0, 0, 5}, {4, 0, 4}, {7, 0, 1}, {0, 4, 1}, {0, 1, 4}, {-1, 0, 1}, {0, -1, 1}, {0, 0, -1},
            {MAX, 0, MAX}, {0, MAX, MAX}, {MAX, MAX, MAX}, {MAX, 0, 1}, {1, 1, MAX}, {MIN, 0, MIN}, {0, 0, MIN}};
        for (int[] r : rows) {
            due(Arrays.toString(r), z.move(0, r[0], 1, r[1], r[2]), BEYOND);
        }
        dueAll("none came", row(z, 1), 4, 5, 6, 7);
    }

    private static void heatsAndJudges() {
        says("how many, up to the first that is not 0 to 40 (no ERROR then), or that is beyond the last HILL.");
        for (int n : new int[] {0, 1, 8, 9, 10, 40}) {
            MilkHills x = new MilkHills();
            x.sheet(0, 8, n);
            due("of " + n, x.heats(0), Math.min(n, 9));
            for (int hill = 0; hill <= 8; hill++) {
                due("HEAT of " + hill + " by " + n, x.ofHill(hill, 0), hill < n ? 0 : 8);
            }
        }
        for (int bad : new int[] {-1, 41, MIN, MAX}) {
            for (int place : new int[] {0, 8, 9}) {
                MilkHills x = new MilkHills();
                x.sheet(0, 32, 10);
                x.put(0, 1, 40);
                x.put(0, place, bad);
                due(bad + " at " + place, x.heats(0), place);
                due("HEAT of 8", x.ofHill(8, 0), place == 9 ? 0 : 8);
                due("HEAT of 1", x.ofHill(1, 0), place == 0 ? 8 : 40);
                due("no ERROR", x.told(1) + x.told(2) + x.told(3), 0);
            }
        }
        says("the first that isn't so (one that lacks, or is too many, too); -1: all are.");
        for (int many = 0; many <= 6; many++) {
            for (int n = 0; n <= 8; n++) {
                MilkHills x = with(new int[many]);
                x.sheet(3, 8, n);
                due(n + " of " + many, x.judge(3), n == many ? -1 : Math.min(n, many));
            }
        }
        MilkHills x = with(0, 0, 0, 0);
        shake(x, 3, 20);
        x.giveUp(1);
        x.become(2, 10);
        x.sheet(0, 8, 4);
        x.put(0, 0, 1);
        x.put(0, 1, 3);
        due("butter, cheese, sweet, sweet", x.judge(0), -1);
        x.put(0, 3, 2);
        due("the last isn't", x.judge(0), 3);
        x.put(0, 0, 0);
        due("the first isn't", x.judge(0), 0);
        x.sheet(1, 32, 4);
        x.put(1, 0, 257);
        due("no lowest bits of 32", x.judge(1), 0);
    }

    // ---- promises 35 to 40

    private static void images() {
        says("NONE: there is none.");
        MilkHills x = with(0);
        due("none", x.restore(), NONE);
        says("is kept as an IMAGE, in place of one ahead: how often that was done.");
        due("once", x.image(), 1);
        x.quarters(3);
        due("twice", x.image(), 2);
        x.quarters(1);
        says("All is as the IMAGE has it, which stays: QUARTER.");
        due("back", x.restore(), 3);
        x.quarters(5);
        due("back again", x.restore(), 3);
        due("three times", x.image(), 3);
        says("All (but SHEETS, THE TRACE, what told() tells, and how often this was done)");
        MilkHills y = with(0, 25);
        y.hill(3, 1, 2);
        y.carrier(1, 7, 13);
        y.feed('q', 1);
        y.tell(3);
        y.tell(5);
        y.voice(1, 0, 1);
        y.sheet(0, 8, 1);
        y.image();
        y.hill(3, 1, 0);
        y.carrier(1, 1, 1);
        y.churn(0);
        y.check();
        y.tell(77);
        y.tell(78);
        y.text(0);
        text(y, 0, "(t+q)*2-3");
        text(y, 1, "1");
        y.feed(0x7373, 2);
        y.voice(1, 3, 1);
        y.sheet(0, 16, 2);
        y.sheet(1, 8, 1);
        y.seed(9);
        y.count(-1);
        due("back", y.restore(), 0);
        due("ROOM", y.ofHill(3, 1), 2);
        due("CHURNS", y.count(0), 2);
        due("numbers", y.count(7), 2);
        due("WARM", y.law(0, 21, 1, 0), 5);
        due("the first number is so, the second isn't", y.check(), 2);
        due("bytes", y.count(6), 1);
        due("they", y.text(0), 1);
        due("q", y.law(0, 0, 3, 0), 3);
        due("WORTH", y.law(1, 0, 0, 0), 50);
        due("z", y.count(9), 1);
        due("PACE", y.go(0, 1), 7);
        y.quarters(1);
        due("SHAKE", y.ofChurn(0, 6), 13);
        due("THE TRACE stays", y.count(8), 5);
        due("SHEETS stay", y.put(0, 1, 1), 1);
        due("those made behind it, too", y.put(1, 0, 1), 1);
        due("what is told stays", y.told(1), 1);
        due("how often", y.image(), 2);
    }

    private static void numbers() {
        says("One more number waits: how many. FULL: 20 wait.");
        MilkHills x = with(0, 10);
        for (int i = 1; i <= 20; i++) {
            due("how many", x.tell(4 * i + (i == 20 ? 1 : 0)), i);
        }
        due("a twenty-first", x.tell(0), FULL);
        due("how many", x.count(7), 20);
        says("else 1 and the place (from 0) of the first that isn't so.");
        due("the twentieth", x.check(), 20);
        says("The numbers that wait (none do then)");
        due("none", x.count(7), 0);
        due("none is all so", x.check(), 0);
        due("room again", x.tell(MIN), 1);
        due("the first", x.check(), 1);
        due("none", x.count(7), 0);
        says("are SOUR of all CHURNS together behind 1, 2, .. QUARTERS from now: 0");
        MilkHills y = new MilkHills();
        y.tell(0);
        y.tell(0);
        due("of none", y.check(), 0);
        for (int i = 0; i < 6; i++) {
            y.churn(0);
        }
        bring(y, 0, 9);
        y.giveUp(1);
        y.hill(0, 1, 1);
        y.brook(2);
        sour(y, 9);
        text(y, 0, "q+1-10");
        due("QUARTER", y.count(1), 10);
        y.tell(27 + 3);
        y.tell(30 + 6);
        y.tell(36 + 9);
        due("those that REST", y.check(), 0);
        due("nothing has gone by", y.count(1), 10);
        due("nothing is more SOUR", y.ofChurn(3, 5), 9);
    }

    private static void counts() {
        says("0 CHURNS, 1 QUARTER, 2 TAKINGS, 3 how many are IN TOWN, 4 on their WAY, 5 sweet, 6 bytes of THE TAPE, 7, 8, 9");
        MilkHills x = new MilkHills();
        for (int what = 0; what <= 9; what++) {
            due("at first, " + what, x.count(what), what == 9 ? 1 : 0);
        }
        for (int i = 0; i < 6; i++) {
            x.churn(0);
        }
        due("all are sweet", x.count(5), 6);
        x.giveUp(5);
        due("but that GIVEN UP", x.count(5), 5);
        for (int i = 0; i < 4; i++) {
            x.go(i, 3);
            due("on their WAY", x.count(4), i + 1);
        }
        x.quarters(4);
        due("none any more", x.count(4), 0);
        bring(x, 0, 9);
        due("IN TOWN", x.count(3), 1);
        due("sweet there, too", x.count(5), 5);
        bring(x, 1, 9);
        bring(x, 2, 9);
        due("IN TOWN", x.count(3), 3);
        says("How many acts have answered an ERROR LOW - k (k 1 .. 5); BEYOND: another k (counted, too).");
        MilkHills y = new MilkHills();
        for (int k = 1; k <= 5; k++) {
            due("at first", y.told(k), 0);
        }
        for (int k : new int[] {0, 6, -1, MIN, MAX}) {
            int were = y.told(1);
            due("another k", y.told(k), BEYOND);
            due("counted, too", y.told(1), were + 1);
        }
        for (int k = 2; k <= 5; k++) {
            due("of those none", y.told(k), 0);
        }
        due("what looks like one isn't counted", y.seed(-1000000002), 1);
        y.seed(0);
        due("NONE", y.told(2), 0);
    }
}
