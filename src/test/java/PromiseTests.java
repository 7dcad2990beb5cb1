import java.util.function.LongSupplier;

/** For each promise of the document what it asks for, worked out by hand: ordinary calls, edges, wrong inputs. */
public final class PromiseTests {
    private static final int LOW = -1000000000;
    private static final int BEYOND = 1;
    private static final int NONE = 2;
    private static final int STATE = 3;
    private static final int FULL = 4;
    private static final int KIND = 5;
    private static final int MIN = Integer.MIN_VALUE;
    private static final int MAX = Integer.MAX_VALUE;

    private static int promise;
    private static int wrong;
    private static int asked;

    private PromiseTests() {
    }

    public static void main(String[] args) {
        objects();
        hillsAndCarriers();
        churns();
        orders();
        texts();
        quarterHours();
        whatWouldBe();
        drawsAndVoices();
        sheets();
        imagesAndNumbers();
        System.out.println(wrong == 0 ? asked + " answers as promised" : wrong + " answers are not as promised");
        if (wrong != 0) {
            System.exit(1);
        }
    }

    // ---- what the tests share

    private static void due(String what, long got, long want) {
        asked++;
        if (got != want) {
            wrong++;
            System.out.println("promise " + promise + ": " + what + " is " + got + ", due is " + want);
        }
    }

    /** A row of numbers at once. */
    private static void dueAll(String what, String got, String want) {
        asked++;
        if (!got.equals(want)) {
            wrong++;
            System.out.println("promise " + promise + ": " + what + " is " + got + ", due is " + want);
        }
    }

    /** The call answers LOW - k, and is counted; RefusalTests asks that it changes nothing else. */
    private static void refused(MilkHills x, int k, String what, LongSupplier call) {
        int told = x.told(k);
        due(what, call.getAsLong(), LOW - k);
        due("told(" + k + ") behind " + what, x.told(k), told + 1);
    }

    /** All that can be read without a change, and without an ERROR. */
    private static String allOf(MilkHills x) {
        StringBuilder all = new StringBuilder();
        for (int what = 0; what <= 9; what++) {
            all.append(x.count(what)).append(' ');
        }
        for (int hill = 0; hill <= 8; hill++) {
            all.append("| ").append(ofHill(x, hill));
        }
        for (int churn = 0; churn < x.count(0); churn++) {
            all.append("| ").append(ofChurn(x, churn));
            if (x.ofChurn(churn, 3) < 2 && x.ofChurn(churn, 7) != 3) {
                for (int carrier = 0; carrier < 4; carrier++) {
                    all.append(x.bestGiven(churn, carrier, 1)).append(' ').append(x.byWhom(churn, 0, 18)).append(' ');
                }
            }
        }
        for (int i = 0; i < x.count(8); i++) {
            all.append(x.trace(i)).append(' ');
        }
        for (int a = 0; a < 4; a++) {
            all.append(x.law(0, 9 * a, 31 * a, 0)).append(' ').append(x.law(1, a, 31 * a, a)).append(' ');
        }
        return all.toString();
    }

    private static String ofHill(MilkHills x, int hill) {
        StringBuilder all = new StringBuilder();
        for (int what = 0; what <= 4; what++) {
            all.append(x.ofHill(hill, what)).append(' ');
        }
        return all.toString();
    }

    private static String ofChurn(MilkHills x, int churn) {
        StringBuilder all = new StringBuilder();
        for (int what = 0; what <= 9; what++) {
            all.append(x.ofChurn(churn, what)).append(' ');
        }
        return all.toString();
    }

    private static String traceOf(MilkHills x) {
        StringBuilder all = new StringBuilder();
        for (int i = 0; i < x.count(8); i++) {
            all.append(x.trace(i)).append(' ');
        }
        return all.toString();
    }

    private static int feed(MilkHills x, String text) {
        int many = x.count(6);
        for (int i = 0; i < text.length(); i++) {
            many = x.feed(text.charAt(i), 1);
        }
        return many;
    }

    private static int text(MilkHills x, int use, String text) {
        feed(x, text);
        return x.text(use);
    }

    private static MilkHills with(int... kms) {
        MilkHills x = new MilkHills();
        for (int km : kms) {
            x.churn(km);
        }
        return x;
    }

    /** Brings a CHURN that stands on to a HILL with neither SOUR nor SHAKEN, a QUARTER from HILL to HILL. */
    private static void bring(MilkHills x, int churn, int hill) {
        text(x, 0, "0");
        x.carrier(3, 1, 0);
        while (x.ofChurn(churn, 2) < hill) {
            x.go(churn, 3);
            x.quarters(1);
        }
        text(x, 0, "t/4");
    }

    // ---- promise 1

    private static void objects() {
        promise = 1;
        MilkHills x = new MilkHills();
        for (int what = 0; what <= 8; what++) {
            due("count(" + what + ")", x.count(what), 0);
        }
        due("z", x.count(9), 1);
        for (int hill = 0; hill <= 8; hill++) {
            dueAll("hill " + hill, ofHill(x, hill), "8 0 10 0 2 ");
        }
        due("WARM", x.law(0, 23, 0, 0), 5);
        due("WORTH sweet", x.law(1, 0, 99, 9), 50);
        due("WORTH butter", x.law(1, 1, 0, 0), 30);
        due("WORTH whey", x.law(1, 2, 0, 0), 0);
        for (int k = 1; k <= 5; k++) {
            due("told(" + k + ")", x.told(k), 0);
        }
        for (int sheet = 0; sheet < 4; sheet++) {
            due("a missing sheet", x.heats(sheet), LOW - NONE);
        }
        due("no image", x.restore(), LOW - NONE);
        due("no trace", x.trace(0), LOW - NONE);
        for (int carrier = 0; carrier < 4; carrier++) {
            MilkHills y = with(0);
            due("LEFT by " + carrier, y.go(0, carrier), carrier + 1);
            y.quarters(1);
            due("SHAKEN by " + carrier, y.ofChurn(0, 6), 9 - 2 * carrier);
        }
        MilkHills y = new MilkHills();
        y.hill(0, 0, 40);
        y.churn(0);
        due("another object's hill", x.ofHill(0, 0), 8);
        due("another object's churns", x.count(0), 0);
    }

    // ---- promises 2 to 4

    private static void hillsAndCarriers() {
        hill();
        ofHills();
        carriers();
    }

    private static void hill() {
        promise = 2;
        MilkHills x = with(0, 0);
        due("HEAT", x.hill(3, 0, 40), 8);
        due("HEAT again", x.hill(3, 0, 0), 40);
        due("ROOM", x.hill(0, 1, 3), 0);
        due("PRICE", x.hill(8, 2, 99), 10);
        due("PRICE again", x.hill(8, 2, 0), 99);
        dueAll("hill 3", ofHill(x, 3), "0 0 10 0 0 ");
        dueAll("hill 8", ofHill(x, 8), "8 0 0 0 2 ");
        x.brook(0);
        x.brook(1);
        refused(x, STATE, "ROOM 1 for two", () -> x.hill(0, 1, 1));
        refused(x, STATE, "ROOM 0 for two", () -> x.hill(0, 1, 0));
        refused(x, BEYOND, "ROOM -1 for two", () -> x.hill(0, 1, -1));
        due("ROOM for both", x.hill(0, 1, 2), 3);
        due("ROOM elsewhere", x.hill(1, 1, 0), 0);
        due("HEAT below how many are in it", x.hill(0, 0, 1), 8);
        x.rest(0);
        due("ROOM for the other", x.hill(0, 1, 1), 2);
        for (int hill : new int[] {-1, 9, MIN, MAX}) {
            refused(x, BEYOND, "hill " + hill, () -> x.hill(hill, 0, 1));
        }
        for (int what : new int[] {-1, 3, MIN, MAX}) {
            refused(x, BEYOND, "what " + what, () -> x.hill(0, what, 1));
        }
        for (int v : new int[] {-1, 100, MIN, MAX}) {
            refused(x, BEYOND, "v " + v, () -> x.hill(0, 2, v));
        }
        refused(x, BEYOND, "HEAT 41", () -> x.hill(0, 0, 41));
        refused(x, BEYOND, "ROOM 4", () -> x.hill(0, 1, 4));
    }

    private static void ofHills() {
        promise = 3;
        MilkHills x = with(0, 0, 0);
        x.hill(2, 0, 24);
        x.hill(2, 1, 2);
        x.hill(2, 2, 33);
        dueAll("hill 2", ofHill(x, 2), "24 2 33 0 6 ");
        bring(x, 0, 2);
        bring(x, 1, 2);
        x.brook(0);
        due("in the brook", x.ofHill(2, 3), 1);
        x.brook(1);
        due("both in the brook", x.ofHill(2, 3), 2);
        due("in another", x.ofHill(0, 3), 0);
        text(x, 0, "q");
        due("WARM by the quarter", x.ofHill(2, 4), x.count(1));
        x.quarters(96 - x.count(1) - 1);
        due("WARM held", x.ofHill(2, 4), 40);
        x.quarters(1);
        due("WARM of the next day", x.ofHill(2, 4), 0);
        x.quarters(3);
        due("WARM later", x.ofHill(2, 4), 3);
        text(x, 0, "t-30");
        due("WARM below 0", x.ofHill(2, 4), 0);
        for (int bad : new int[] {-1, 9, MIN, MAX}) {
            refused(x, BEYOND, "hill " + bad, () -> x.ofHill(bad, 0));
            refused(x, BEYOND, "what " + bad, () -> x.ofHill(0, bad));
        }
        refused(x, BEYOND, "what 5", () -> x.ofHill(8, 5));
    }

    private static void carriers() {
        promise = 4;
        MilkHills x = with(0);
        due("carrier 2", x.carrier(2, 9, 20), 30);
        due("carrier 2 again", x.carrier(2, 4, 1), 90);
        due("LEFT", x.go(0, 2), 4);
        x.quarters(1);
        due("SHAKEN", x.ofChurn(0, 6), 1);
        due("on its way", x.carrier(2, 1, 0), 40);
        due("LEFT stays", x.ofChurn(0, 4), 3);
        x.quarters(1);
        due("SHAKEN by the new shake", x.ofChurn(0, 6), 1);
        x.carrier(2, 1, 20);
        x.quarters(2);
        due("SHAKEN by the newest", x.ofChurn(0, 6), 41);
        due("there", x.ofChurn(0, 2), 1);
        for (int bad : new int[] {-1, 4, MIN, MAX}) {
            refused(x, BEYOND, "carrier " + bad, () -> x.carrier(bad, 1, 1));
        }
        for (int bad : new int[] {-1, 0, 10, MIN, MAX}) {
            refused(x, BEYOND, "pace " + bad, () -> x.carrier(2, bad, 1));
        }
        for (int bad : new int[] {-1, 21, MIN, MAX}) {
            refused(x, BEYOND, "shake " + bad, () -> x.carrier(2, 2, bad));
        }
        due("the pace that stayed", x.carrier(2, 1, 0), 10);
    }

    // ---- promises 5 to 8

    private static void churns() {
        promise = 5;
        MilkHills x = new MilkHills();
        for (int bad : new int[] {-1, 70, MIN, MAX}) {
            refused(x, BEYOND, "km " + bad, () -> x.churn(bad));
        }
        for (int i = 0; i < 6; i++) {
            due("churn", x.churn(13 * i), i);
        }
        dueAll("churn 5", ofChurn(x, 5), "6 5 0 0 0 0 0 0 100 -1 ");
        refused(x, FULL, "a seventh", () -> x.churn(0));
        refused(x, BEYOND, "beyond ahead of full", () -> x.churn(70));
        ofChurns();
        kinds();
    }

    private static void ofChurns() {
        promise = 6;
        MilkHills x = with(43, 59, 7);
        dueAll("running", ofChurn(x, 0), "4 3 0 0 0 0 0 0 95 -1 ");
        dueAll("sealed", ofChurn(x, 1), "5 9 0 0 0 0 0 0 120 -1 ");
        x.go(2, 3);
        x.quarters(1);
        dueAll("on its way", ofChurn(x, 2), "0 7 0 2 3 2 3 0 100 3 ");
        x.quarters(3);
        dueAll("at hill 1", ofChurn(x, 2), "0 7 1 0 0 8 12 0 100 -1 ");
        x.hill(1, 1, 1);
        x.brook(2);
        due("in the brook", x.ofChurn(2, 3), 1);
        x.giveUp(2);
        dueAll("given up", ofChurn(x, 2), "0 7 1 0 0 8 12 3 100 -1 ");
        bring(x, 1, 9);
        dueAll("in town", ofChurn(x, 1), "5 9 9 3 0 0 0 0 120 -1 ");
        int[] turns = {100, 80, 100, 100, 80, 120, 100};
        for (int kind = 0; kind <= 6; kind++) {
            MilkHills y = with(10 * kind);
            due("turns of " + kind, y.ofChurn(0, 8), turns[kind]);
        }
        MilkHills y = with(0);
        x.hill(0, 0, 8);
        y.quarters(49);
        due("sweet with SOUR 98", y.ofChurn(0, 7), 0);
        y.quarters(1);
        due("whey with SOUR 100", y.ofChurn(0, 7), 2);
        butter();
        for (int bad : new int[] {-1, 3, 6, MIN, MAX}) {
            refused(x, BEYOND, "churn " + bad, () -> x.ofChurn(bad, 0));
        }
        for (int bad : new int[] {-1, 10, MIN, MAX}) {
            refused(x, BEYOND, "what " + bad, () -> x.ofChurn(0, bad));
        }
    }

    private static void butter() {
        MilkHills x = with(0);
        x.carrier(0, 5, 15);
        x.go(0, 0);
        x.quarters(3);
        due("sweet with SHAKEN 45", x.ofChurn(0, 7), 0);
        x.quarters(1);
        due("SHAKEN", x.ofChurn(0, 6), 60);
        due("butter with SHAKEN 60", x.ofChurn(0, 7), 1);
        x.quarters(60);
        due("whey ahead of butter", x.ofChurn(0, 7), 2);
        x.giveUp(0);
        due("cheese ahead of whey", x.ofChurn(0, 7), 3);
    }

    private static void kinds() {
        promise = 7;
        MilkHills x = with(25, 0);
        x.quarters(3);
        due("from LIDDED", x.become(0, 48), 2);
        dueAll("as RUNNING", ofChurn(x, 0), "4 8 0 0 0 3 0 0 120 -1 ");
        due("from RUNNING", x.become(0, 0), 4);
        due("from CHURN", x.become(0, 69), 0);
        due("from OLD", x.become(0, 69), 6);
        for (int bad : new int[] {-1, 2, MIN, MAX}) {
            refused(x, BEYOND, "churn " + bad, () -> x.become(bad, 0));
        }
        for (int bad : new int[] {-1, 70, MIN, MAX}) {
            refused(x, BEYOND, "km " + bad, () -> x.become(0, bad));
        }
        promise = 8;
        int[] above = {-1, 0, 0, 0, 1, 2, 3};
        for (int kind = 0; kind <= 6; kind++) {
            MilkHills y = with(10 * kind + 7);
            for (int as = 0; as <= 6; as++) {
                boolean is = as == 0 || as == kind || as == above[kind];
                int asKind = as;
                if (is) {
                    due(kind + " as " + as, y.as(0, as), 7);
                } else {
                    refused(y, KIND, kind + " as " + as, () -> y.as(0, asKind));
                }
            }
        }
        for (int bad : new int[] {-1, 7, MIN, MAX}) {
            refused(x, BEYOND, "churn " + bad, () -> x.as(bad, 0));
            refused(x, BEYOND, "kind " + bad, () -> x.as(0, bad));
        }
    }

    // ---- promises 9 to 13

    private static void orders() {
        promise = 9;
        MilkHills x = with(0, 0, 0, 0);
        x.hill(0, 1, 2);
        due("go", x.go(0, 2), 3);
        x.brook(1);
        due("go from the brook", x.go(1, 0), 1);
        due("the brook is empty", x.ofHill(0, 3), 0);
        refused(x, STATE, "on its way", () -> x.go(0, 1));
        x.giveUp(2);
        refused(x, STATE, "given up", () -> x.go(2, 1));
        bring(x, 3, 9);
        refused(x, STATE, "in town", () -> x.go(3, 1));
        refused(x, BEYOND, "beyond ahead of state", () -> x.go(0, 4));
        for (int bad : new int[] {-1, 4, MIN, MAX}) {
            refused(x, BEYOND, "churn " + bad, () -> x.go(bad, 0));
            refused(x, BEYOND, "carrier " + bad, () -> x.go(1, bad));
        }
        brooks();
        givenUp();
        refills();
    }

    private static void brooks() {
        promise = 10;
        MilkHills x = with(0, 0, 0, 0, 0);
        refused(x, FULL, "no room", () -> x.brook(0));
        x.hill(0, 1, 2);
        due("the first", x.brook(3), 1);
        due("the second", x.brook(0), 2);
        refused(x, FULL, "a third", () -> x.brook(1));
        refused(x, STATE, "in it already, ahead of full", () -> x.brook(0));
        x.go(4, 3);
        refused(x, STATE, "on its way", () -> x.brook(4));
        x.giveUp(2);
        x.hill(0, 1, 3);
        refused(x, STATE, "given up", () -> x.brook(2));
        due("a third with more room", x.brook(1), 3);
        for (int bad : new int[] {-1, 5, MIN, MAX}) {
            refused(x, BEYOND, "churn " + bad, () -> x.brook(bad));
        }
        MilkHills y = with(0);
        bring(y, 0, 9);
        refused(y, STATE, "in town", () -> y.brook(0));
        promise = 11;
        due("out", x.rest(3), 2);
        due("RESTS", x.ofChurn(3, 3), 0);
        due("out", x.rest(1), 1);
        due("out", x.rest(0), 0);
        refused(x, STATE, "rests", () -> x.rest(0));
        refused(x, STATE, "given up", () -> x.rest(2));
        refused(x, STATE, "on its way", () -> x.rest(4));
        refused(y, STATE, "in town", () -> y.rest(0));
        for (int bad : new int[] {-1, 5, MIN, MAX}) {
            refused(x, BEYOND, "churn " + bad, () -> x.rest(bad));
        }
    }

    private static void givenUp() {
        promise = 12;
        MilkHills x = with(0, 0, 0, 0, 0);
        x.hill(0, 1, 1);
        x.hill(0, 2, 33);
        x.brook(1);
        x.go(2, 3);
        x.quarters(1);
        due("PRICE 33 with SOUR 2", x.giveUp(0), 323);
        due("from the brook", x.giveUp(1), 330);
        due("it rests", x.ofChurn(1, 3), 0);
        due("the brook is empty", x.ofHill(0, 3), 0);
        due("TAKINGS", x.count(2), 653);
        refused(x, STATE, "on its way", () -> x.giveUp(2));
        refused(x, STATE, "given up", () -> x.giveUp(0));
        x.quarters(60);
        due("nothing with SOUR above 100", x.giveUp(3), 0);
        x.refill(4);
        bring(x, 4, 9);
        refused(x, STATE, "in town", () -> x.giveUp(4));
        for (int bad : new int[] {-1, 5, MIN, MAX}) {
            refused(x, BEYOND, "churn " + bad, () -> x.giveUp(bad));
        }
        MilkHills y = with(0);
        y.hill(0, 2, 99);
        for (int i = 1; i <= 101; i++) {
            due("990", y.giveUp(0), 990);
            y.refill(0);
        }
        due("TAKINGS", y.count(2), 99990);
        y.giveUp(0);
        due("TAKINGS held", y.count(2), 99999);
    }

    private static void refills() {
        promise = 13;
        MilkHills x = with(37, 0, 0);
        x.hill(0, 1, 1);
        due("it rested", x.refill(0), 0);
        x.brook(1);
        due("it was in the brook", x.refill(1), 1);
        due("the brook is empty", x.ofHill(0, 3), 0);
        x.go(0, 3);
        x.quarters(2);
        due("it was on its way", x.refill(0), 2);
        dueAll("as new", ofChurn(x, 0), "3 7 0 0 0 0 0 0 100 -1 ");
        bring(x, 2, 9);
        due("it was in town", x.refill(2), 3);
        x.giveUp(2);
        due("it was given up", x.refill(2), 0);
        due("it is not any more", x.ofChurn(2, 7), 0);
        for (int bad : new int[] {-1, 3, MIN, MAX}) {
            refused(x, BEYOND, "churn " + bad, () -> x.refill(bad));
        }
    }

    // ---- promises 14 to 16

    private static void texts() {
        promise = 14;
        MilkHills x = new MilkHills();
        due("one byte", x.feed(0x2A33, 1), 1);
        due("another", x.feed(0x312A, 1), 2);
        due("a text of both", x.text(0), -12);
        for (int i = 1; i <= 6; i++) {
            due("eight more", x.feed(-1, 8), 8 * i);
        }
        refused(x, FULL, "three more", () -> x.feed(0, 3));
        due("two more", x.feed(0, 2), 50);
        refused(x, FULL, "one more", () -> x.feed(0, 1));
        for (int bad : new int[] {-1, 0, 9, MIN, MAX}) {
            refused(x, BEYOND, "n " + bad, () -> x.feed(0, bad));
        }
        due("bytes of -1", x.text(0), -10);
        due("the lowest first", x.feed(0x39392B3939392A71L, 8), 8);
        x.text(0);
        due("q*999+99", x.law(0, 0, 0, 0), 40);
        x.feed(0x71, 1);
        x.feed(0x393938382D717171L, 8);
        due("the eighth byte", x.text(0), -11);
        x.feed(0x362D71L, 3);
        x.text(0);
        due("q-6", x.law(0, 0, 13, 0), 7);
        faults();
        laws();
    }

    private static void faults() {
        promise = 15;
        MilkHills y = new MilkHills();
        String[] good = {"0", "9999", "t", "q", "!t", "(t)", "1|2|3", "1&2&3", "1<2", "1=2", "1>2", "1<2&3<4|5=6",
            "1+2-3", "1*2/3%4", "!!!!!1", "(((((1)))))", "!(!(!1))", "(1<2)<3", "!1+!2*!3", "0007",
            "((((!t<q&1)))|2)", "t+t+t+t+t+t+t+t+t+t+t+t+t+t+t+t+t+t+t+t+t+t+t+t+99"};
        for (String text : good) {
            due(text, text(y, 0, text), 1);
            due("tape behind " + text, y.count(6), 0);
        }
        MilkHills x = new MilkHills();
        String[] bad = {"", "12345", "1 ", " 1", "s", "T", "1<2<3", "1<2=3", "1+", "1+*", "()", "(1", "(1))", "1)",
            "!!!!!!1", "((((((1))))))", "!(!(!(1)))", "1!", "1(2)", "tq", "t1", "1t", "-1", "1||2", "1<", "!", "(",
            "(1<2<3)", "1<(2<3)<4", "!)", "1=>2", "t+t+t+t+t+t+t+t+t+t+t+t+t+t+t+t+t+t+t+t+t+t+t+t+t+", "99999"};
        int[] place = {0, 4, 1, 0, 0, 0, 3, 3, 2, 2, 1, 2, 3, 1,
            5, 5, 5, 1, 1, 1, 1, 1, 0, 2, 2, 1, 1,
            4, 7, 1, 2, 50, 4};
        text(x, 0, "t+1");
        for (int i = 0; i < bad.length; i++) {
            due(bad[i], text(x, 0, bad[i]), -10 - place[i]);
            due("tape behind " + bad[i], x.count(6), 0);
        }
        due("the one ahead stays", x.law(0, 5, 0, 0), 6);
        due("a fault is no error", x.told(1) + x.told(2) + x.told(3) + x.told(4) + x.told(5), 0);
        due("names of the other use", text(x, 1, "s+r+m"), 1);
        due("no t", text(x, 1, "1+t"), -12);
        due("no q", text(x, 1, "q"), -10);
        feed(x, "7");
        for (int use : new int[] {-1, 2, MIN, MAX}) {
            refused(x, BEYOND, "use " + use, () -> x.text(use));
        }
        due("the tape stayed", x.text(0), 1);
        due("its law", x.law(0, 0, 0, 0), 7);
    }

    private static void law(MilkHills x, String text, int want) {
        due(text, text(x, 1, text), 1);
        due(text, x.law(1, 7, 20, 3), want);
    }

    private static void laws() {
        promise = 16;
        MilkHills x = new MilkHills();
        String[] texts = {"s", "r", "m", "2+3*4", "(2+3)*4", "20-3-2", "100/7/2", "r%s", "0-7+9", "1|0", "0|0", "5&2",
            "5&0", "0|7", "7|0&0", "1<2", "2<1", "1<1", "2=2", "2=1", "2>1", "1>2", "1>1", "!0", "!5", "!!5", "s/0", "s%0",
            "(0-7)/2+9", "(0-7)%4+9", "!s+1", "!(s=6)", "1+1=2", "1=1&2=2", "1&2<1|1", "s*r+m", "0001+0010",
            "(9999*9999*99>0)+5", "2-(1<2)", "3<2+2", "999+9", "0-1", "7-2*3", "8/2*4", "7%4*2", "10-(2-1)"};
        int[] want = {7, 20, 3, 14, 20, 15, 7, 6, 2, 1, 0, 1,
            0, 1, 1, 1, 0, 0, 1, 0, 1, 0, 0, 1, 0, 1, 0, 0,
            6, 6, 1, 1, 1, 1, 1, 143, 11,
            (9999 * 9999 * 99 > 0 ? 1 : 0) + 5, 1, 1, 999, 0, 1, 16, 6, 9};
        for (int i = 0; i < texts.length; i++) {
            law(x, texts[i], want[i]);
        }
        text(x, 1, "s/r=s&s%r=0");
        due("the least by -1", x.law(1, MIN, -1, 0), 1);
        text(x, 1, "s+r");
        due("ints wrap", x.law(1, MAX, MIN + 10, 0), 9);
        due("held above", x.law(1, MAX, 0, 0), 999);
        due("held below", x.law(1, MAX, 1, 0), 0);
        text(x, 0, "t*q");
        due("WARM by two names", x.law(0, 5, 6, 100), 30);
        due("q is not cut by the day", x.law(0, 1, -97, 0), 0);
        due("WARM held", x.law(0, 7, 6, 0), 40);
        due("WARM below 0", x.law(0, -7, 6, 0), 0);
        text(x, 0, "q-90");
        due("q beyond the day", x.law(0, 0, 100, 0), 10);
        for (int use : new int[] {-1, 2, MIN, MAX}) {
            refused(x, BEYOND, "use " + use, () -> x.law(use, 1, 1, 1));
        }
    }

    // ---- promises 17 to 20

    private static void quarterHours() {
        promise = 17;
        warmsAndJolts();
        takings();
        MilkHills x = with(0);
        for (int bad : new int[] {-1, 0, 301, MIN, MAX}) {
            refused(x, BEYOND, "n " + bad, () -> x.quarters(bad));
        }
        for (int i = 0; i < 33; i++) {
            x.quarters(300);
        }
        due("QUARTER", x.count(1), 9900);
        due("SOUR held", x.ofChurn(0, 5), 9999);
        refused(x, STATE, "above 9999", () -> x.quarters(100));
        refused(x, BEYOND, "beyond ahead of state", () -> x.quarters(301));
        due("up to 9999", x.quarters(99), 0);
        refused(x, STATE, "one more", () -> x.quarters(1));
        days();
        then();
    }

    private static void warmsAndJolts() {
        // Of WARM 7, SHAKE 5, m 8: a QUARTER on the way, two behind it at rest.
        int[] warms = {7, 9, 3, 7, 9, 2, 9};
        int[] jolts = {5, 5, 5, 10, 3, 5, 18};
        for (int kind = 0; kind <= 6; kind++) {
            MilkHills x = with(10 * kind + 8);
            text(x, 0, "7");
            x.carrier(0, 1, 5);
            x.go(0, 0);
            x.quarters(1);
            due("WARMS of " + kind, x.ofChurn(0, 5), warms[kind]);
            due("JOLTS of " + kind, x.ofChurn(0, 6), jolts[kind]);
            x.quarters(2);
            due("WARMS of " + kind + " at rest", x.ofChurn(0, 5), 3 * warms[kind]);
            due("no JOLTS of " + kind + " at rest", x.ofChurn(0, 6), jolts[kind]);
            x.hill(1, 1, 1);
            x.brook(0);
            x.quarters(5);
            due("nothing in the brook", x.ofChurn(0, 5), 3 * warms[kind]);
        }
        MilkHills y = with(59, 49, 12);
        text(y, 0, "1");
        y.carrier(0, 3, 1);
        y.go(1, 0);
        y.quarters(2);
        due("SEALED of 1", y.ofChurn(0, 5), 0);
        due("RUNNING by 1", y.ofChurn(1, 6), 0);
        due("GOATS of 1 with m 2", y.ofChurn(2, 5), 2);
        MilkHills z = with(0, 0);
        text(z, 0, "t+q");
        z.hill(0, 0, 1);
        z.hill(1, 0, 10);
        z.carrier(1, 2, 0);
        z.go(0, 1);
        z.quarters(3);
        due("WARM of the hill that it left, by quarters", z.ofChurn(0, 5), 1 + 2 + 12);
        due("WARM at rest, by quarters", z.ofChurn(1, 5), 1 + 2 + 3);
    }

    private static void takings() {
        MilkHills x = with(0, 31, 12, 0);
        text(x, 1, "s*100+r*10+m");
        bring(x, 0, 8);
        bring(x, 1, 8);
        bring(x, 2, 8);
        x.hill(8, 0, 12);
        x.carrier(0, 2, 20);
        x.carrier(1, 2, 15);
        x.go(0, 0);
        x.go(1, 1);
        x.giveUp(3);
        int before = x.count(2);
        due("not yet there", x.quarters(1), before);
        due("CHURN sweet with SOUR 6, CREAMED butter", x.quarters(1), before + 60 + 161);
        due("in town nothing more", x.quarters(10), before + 221);
        due("SOUR in town", x.ofChurn(0, 5), 6);
        due("given up nothing more", x.ofChurn(3, 5), 0);
        x.go(2, 0);
        due("GOATS whey: 13 quarters of 3", x.quarters(2), before + 221 + (14 * 3) * 10 + 2);
        MilkHills y = with(0);
        text(y, 1, "999");
        for (int i = 0; i < 6; i++) {
            bring(y, 0, 9);
            due("a worth of 999", y.count(2), 999 * (i + 1));
            y.refill(0);
        }
    }

    private static void days() {
        promise = 18;
        MilkHills x = with(0, 0, 0, 0);
        x.hill(0, 1, 1);
        x.brook(1);
        x.giveUp(2);
        bring(x, 3, 9);
        x.refill(0);
        text(x, 0, "0");
        int z = 1;
        int strikes = 0;
        for (int i = 0; i < 16 * 5; i++) {
            z = z * 1103515245 + 12345;
            strikes += (z >>> 8) % 16 == 0 ? 1 : 0;
        }
        due("TAKINGS", x.days(5), x.count(2));
        due("z", x.count(9), z);
        due("QUARTER", x.count(1), 9 + 80);
        due("it has thundered", strikes > 0 ? 1 : 0, 1);
        due("struck at rest", x.ofChurn(0, 5), 30 * strikes);
        due("struck in the brook", x.ofChurn(1, 5), 30 * strikes);
        due("not struck given up", x.ofChurn(2, 5), 0);
        due("not struck in town", x.ofChurn(3, 5), 0);
        struckAhead();
        for (int bad : new int[] {-1, 0, 21, MIN, MAX}) {
            refused(x, BEYOND, "n " + bad, () -> x.days(bad));
        }
        while (x.count(1) < 9800) {
            x.quarters(100);
        }
        x.quarters(9999 - 32 - x.count(1));
        refused(x, STATE, "three days", () -> x.days(3));
        refused(x, BEYOND, "beyond ahead of state", () -> x.days(21));
        x.days(2);
        due("QUARTER", x.count(1), 9999);
        refused(x, STATE, "one more day", () -> x.days(1));
        promise = 19;
        MilkHills y = with(0, 0, 0, 0, 0);
        due("thunder", y.thunder(), 5);
        y.hill(0, 1, 1);
        y.brook(0);
        y.giveUp(1);
        y.go(2, 3);
        y.refill(3);
        bring(y, 3, 9);
        due("not given up, not in town", y.thunder(), 3);
        due("in the brook", y.ofChurn(0, 5), 60);
        due("given up", y.ofChurn(1, 5), 30);
        due("in town", y.ofChurn(3, 5), 0);
        due("z stays", y.count(9), 1);
        due("QUARTER stays", y.count(1), 9);
        for (int i = 0; i < 335; i++) {
            y.thunder();
        }
        due("SOUR held", y.ofChurn(0, 5), 9999);
        due("thunder without churns", new MilkHills().thunder(), 0);
    }

    /** A seed whose first draw is thunder: it counts ahead of the QUARTER in which the CHURN comes to the TOWN. */
    private static void struckAhead() {
        int seed = 0;
        while (((seed * 1103515245 + 12345) >>> 8) % 16 != 0) {
            seed++;
        }
        MilkHills x = with(0);
        bring(x, 0, 8);
        text(x, 1, "r");
        x.seed(seed);
        x.go(0, 3);
        due("30 and a quarter of 2", x.days(1), 32);
    }

    private static void then() {
        promise = 20;
        MilkHills x = with(0, 63);
        x.go(0, 1);
        String before = allOf(x);
        int[] want = {1, 0, 0, 6, 14, 0};
        for (int what = 2; what <= 7; what++) {
            due("three quarters on, " + what, x.then(3, 0, what), want[what - 2]);
        }
        due("now", x.then(0, 0, 4), 2);
        due("on its way", x.then(1, 0, 4), 1);
        due("how", x.then(1, 0, 3), 2);
        due("OLD", x.then(300, 1, 5), 1200);
        due("it turns", x.then(25, 1, 7), 2);
        due("it has not turned", x.then(24, 1, 7), 0);
        dueAll("nothing has changed", allOf(x), before);
        for (int bad : new int[] {-1, 301, MIN, MAX}) {
            refused(x, BEYOND, "n " + bad, () -> x.then(bad, 0, 5));
        }
        for (int bad : new int[] {-1, 2, MIN, MAX}) {
            refused(x, BEYOND, "churn " + bad, () -> x.then(1, bad, 5));
        }
        for (int bad : new int[] {-1, 1, 8, MIN, MAX}) {
            refused(x, BEYOND, "what " + bad, () -> x.then(1, 0, bad));
        }
        text(x, 0, "q=15");
        x.giveUp(1);
        x.refill(0);
        while (x.count(1) < 9900) {
            x.quarters(99);
        }
        x.refill(0);
        due("beyond 9999 too", x.then(300, 0, 5), x.count(1) % 96 <= 15 ? 4 : 3);
    }

    // ---- promises 21 to 26

    private static void whatWouldBe() {
        relays();
        relaysByTwoHills();
        turns();
        best();
        cellars();
        odds();
        byWhom();
    }

    private static void relays() {
        promise = 21;
        MilkHills x = with(0, 0, 0, 0);
        bring(x, 0, 8);
        x.carrier(3, 4, 3);
        due("no carrier in 0 quarters", x.relays(0, 0, -1), LOW - NONE);
        due("by carrier 0", x.relays(0, 1, -1), 2);
        due("by carrier 0, at once", x.relays(0, 60, 8), 0);
        text(x, 0, "(q=8)*9+(q=9)*3");
        due("resting", x.relays(0, 60, -1), 9);
        x.hill(8, 1, 1);
        due("in the brook", x.relays(0, 60, -1), 0);
        due("waits 2", x.relays(0, 60, 8), 20);
        due("waits 1", x.relays(0, 2, 8), 10);
        due("SOUR then", x.relays(0, 2, -1), 3);
        due("no time to wait", x.relays(0, 1, -1), 9);
        x.carrier(1, 1, 7);
        x.carrier(0, 1, 20);
        due("the less carrier of two", x.relays(0, 60, 8), 20);
        x.carrier(0, 2, 20);
        due("by 3 quarters only carrier 1", x.relays(0, 3, 8), 21);
        due("by 4 quarters both", x.relays(0, 4, 8), 20);
        refused(x, NONE, "not at hill 7", () -> x.relays(0, 4, 7));
        x.brook(0);
        due("from the brook", x.relays(0, 4, 8), 20);
        x.giveUp(2);
        bring(x, 3, 9);
        x.go(1, 0);
        refused(x, STATE, "on its way", () -> x.relays(1, 60, -1));
        refused(x, STATE, "given up", () -> x.relays(2, 60, -1));
        refused(x, STATE, "in town", () -> x.relays(3, 60, -1));
        refused(x, BEYOND, "beyond ahead of state", () -> x.relays(3, 61, -1));
        for (int bad : new int[] {-1, 4, MIN, MAX}) {
            refused(x, BEYOND, "churn " + bad, () -> x.relays(bad, 60, -1));
        }
        for (int bad : new int[] {-1, 61, MIN, MAX}) {
            refused(x, BEYOND, "n " + bad, () -> x.relays(0, bad, -1));
        }
        for (int bad : new int[] {-2, 9, MIN, MAX}) {
            refused(x, BEYOND, "what " + bad, () -> x.relays(0, 60, bad));
        }
    }

    /** The least SOUR is not by the quickest of each HILL, as SHAKEN runs from one to the other. */
    private static void relaysByTwoHills() {
        MilkHills x = with(0);
        x.carrier(0, 1, 10);
        text(x, 0, "0");
        for (int i = 0; i < 3; i++) {
            x.go(0, 0);
            x.quarters(1);
        }
        bring(x, 0, 7);
        text(x, 0, "t");
        due("SHAKEN", x.ofChurn(0, 6), 30);
        x.hill(7, 0, 3);
        x.hill(8, 0, 5);
        x.carrier(0, 1, 20);
        x.carrier(1, 2, 5);
        x.carrier(2, 3, 2);
        x.carrier(3, 9, 20);
        due("SOUR", x.relays(0, 60, -1), 14);
        due("at hill 7", x.relays(0, 60, 7), 2);
        due("at hill 8", x.relays(0, 60, 8), 0);
        due("in 4 quarters", x.relays(0, 4, -1), 14);
        refused(x, NONE, "in 3 quarters", () -> x.relays(0, 3, -1));
        refused(x, NONE, "in 3 quarters, a hill", () -> x.relays(0, 3, 7));
        refused(x, NONE, "a hill behind", () -> x.relays(0, 60, 6));
        for (int i = 0; i < 2; i++) {
            x.thunder();
        }
        due("with 60 more", x.relays(0, 60, -1), 74);
        x.become(0, 10);
        due("as GOATS", x.relays(0, 60, -1), 74);
        x.hill(7, 0, 5);
        refused(x, NONE, "GOATS turn at 80", () -> x.relays(0, 60, -1));
        x.become(0, 41);
        due("RUNNING turns at 85", x.relays(0, 60, -1), 60 + 15);
        x.thunder();
        refused(x, STATE, "whey", () -> x.relays(0, 60, -1));
        MilkHills y = with(0);
        for (int carrier = 0; carrier < 4; carrier++) {
            y.carrier(carrier, 1, 6);
        }
        due("nine hills", y.relays(0, 60, -1), 18);
        due("at the last", y.relays(0, 9, 8), 0);
        refused(y, NONE, "8 quarters", () -> y.relays(0, 8, 0));
        relaysByWaiting();
    }

    /** All HILLS have a brook, and one goes without SOUR in each third QUARTER only. */
    private static void relaysByWaiting() {
        MilkHills x = with(0);
        for (int hill = 0; hill <= 8; hill++) {
            x.hill(hill, 1, 1);
            x.carrier(hill, 1, 0);
        }
        text(x, 0, "(q%3>0)*5");
        int[] by = {25, 24, 22, 21, 19, 18};
        int[] sour = {0, 5, 5, 10, 10, 15};
        String[] ways = {"0 20 20 20 20 20 20 20 20 ", "0 0 10 20 20 20 20 20 20 ", "0 0 10 20 20 20 20 20 20 ",
            "0 0 0 0 20 20 20 20 20 ", "0 0 0 0 20 20 20 20 20 ", "0 0 0 0 0 10 20 20 20 "};
        for (int i = 0; i < by.length; i++) {
            due("SOUR by " + by[i], x.relays(0, by[i], -1), sour[i]);
            StringBuilder way = new StringBuilder();
            for (int hill = 0; hill <= 8; hill++) {
                way.append(x.relays(0, by[i], hill)).append(' ');
            }
            dueAll("the way by " + by[i], way.toString(), ways[i]);
        }
        bring(x, 0, 8);
        text(x, 0, "(q<11)*5");
        due("it would have to wait 3", x.relays(0, 60, -1), 5);
        due("so it goes at once", x.relays(0, 60, 8), 0);
    }

    private static void turns() {
        promise = 22;
        MilkHills x = with(4, 0, 0, 0);
        x.carrier(0, 2, 4);
        x.hill(3, 0, 24);
        due("by carrier 0", x.turnsAt(0, 0), 7);
        x.carrier(0, 1, 6);
        due("sweet to the end", x.turnsAt(0, 0), -1);
        x.carrier(0, 1, 7);
        due("behind the last quarter", x.turnsAt(0, 0), 8);
        x.carrier(0, 2, 10);
        due("as it comes to hill 3", x.turnsAt(0, 0), 2);
        x.hill(0, 1, 1);
        x.brook(0);
        due("from the brook", x.turnsAt(0, 0), 2);
        x.hill(3, 0, 8);
        x.hill(5, 0, 40);
        x.carrier(0, 9, 0);
        text(x, 0, "t/10*10");
        due("by SOUR", x.turnsAt(0, 0), 5);
        text(x, 0, "q");
        x.carrier(0, 1, 0);
        due("0 to 8, 36 together", x.turnsAt(0, 0), -1);
        x.carrier(0, 5, 0);
        due("0 to 14 are 105", x.turnsAt(0, 0), 2);
        x.giveUp(2);
        bring(x, 3, 9);
        x.go(1, 3);
        refused(x, STATE, "on its way", () -> x.turnsAt(1, 0));
        refused(x, STATE, "given up", () -> x.turnsAt(2, 0));
        refused(x, STATE, "in town", () -> x.turnsAt(3, 0));
        for (int bad : new int[] {-1, 4, MIN, MAX}) {
            refused(x, BEYOND, "churn " + bad, () -> x.turnsAt(bad, 0));
            refused(x, BEYOND, "carrier " + bad, () -> x.turnsAt(0, bad));
        }
        refused(x, BEYOND, "beyond ahead of state", () -> x.turnsAt(1, 4));
        for (int i = 0; i < 4; i++) {
            x.thunder();
        }
        refused(x, STATE, "not sweet", () -> x.turnsAt(0, 0));
    }

    private static void best() {
        promise = 23;
        MilkHills x = with(0, 0, 0, 0);
        due("here", x.bestGiven(0, 0, 0), 0);
        due("how much", x.bestGiven(0, 0, 1), 100);
        x.hill(4, 2, 20);
        due("hill 4", x.bestGiven(0, 0, 0), 4);
        due("with SOUR 8", x.bestGiven(0, 0, 1), 184);
        x.hill(7, 2, 21);
        due("hill 4 still: 180 there", x.bestGiven(0, 0, 0), 4);
        x.hill(7, 2, 22);
        due("hill 7", x.bestGiven(0, 0, 0), 7);
        due("189 there", x.bestGiven(0, 0, 1), 189);
        text(x, 1, "(s=1)*(r+171)");
        due("the first of two alike", x.bestGiven(0, 0, 0), 7);
        text(x, 1, "(s=1)*(r+172)");
        due("the town", x.bestGiven(0, 0, 0), 9);
        due("butter, SOUR 18", x.bestGiven(0, 0, 1), 190);
        x.hill(0, 1, 1);
        x.brook(0);
        due("from the brook", x.bestGiven(0, 0, 0), 9);
        x.giveUp(2);
        bring(x, 3, 9);
        x.go(1, 3);
        refused(x, STATE, "on its way", () -> x.bestGiven(1, 0, 0));
        refused(x, STATE, "given up", () -> x.bestGiven(2, 0, 0));
        refused(x, STATE, "in town", () -> x.bestGiven(3, 0, 0));
        for (int bad : new int[] {-1, 4, MIN, MAX}) {
            refused(x, BEYOND, "churn " + bad, () -> x.bestGiven(bad, 0, 0));
            refused(x, BEYOND, "carrier " + bad, () -> x.bestGiven(0, bad, 0));
            refused(x, BEYOND, "what " + bad, () -> x.bestGiven(0, 0, bad));
        }
        refused(x, BEYOND, "what 2", () -> x.bestGiven(1, 0, 2));
        MilkHills y = with(0);
        for (int i = 0; i < 4; i++) {
            y.thunder();
        }
        due("nothing is most, here", y.bestGiven(0, 0, 0), 0);
        due("nothing", y.bestGiven(0, 0, 1), 0);
    }

    private static void cellars() {
        promise = 24;
        MilkHills x = with(0, 0, 0, 0);
        bring(x, 0, 7);
        text(x, 0, "t");
        x.hill(7, 0, 12);
        x.hill(8, 0, 20);
        due("hill 8", x.cellar(0, 60, 0), 8);
        due("SOUR 12", x.cellar(0, 60, 1), 12);
        dueAll("the heat stays", ofHill(x, 8), "20 0 10 0 20 ");
        x.hill(7, 0, 21);
        due("hill 7", x.cellar(0, 60, 0), 7);
        x.hill(7, 0, 20);
        due("the least of two alike", x.cellar(0, 60, 0), 7);
        text(x, 0, "9-(t>0)*7");
        due("a cellar that makes warm: one behind", x.cellar(0, 60, 0), 0);
        due("SOUR 4", x.cellar(0, 60, 1), 4);
        refused(x, NONE, "in 1 quarter", () -> x.cellar(0, 1, 0));
        text(x, 0, "t");
        x.thunder();
        x.thunder();
        due("relays without a cellar: none", x.relays(0, 60, -1), LOW - NONE);
        due("with one there are", x.cellar(0, 60, 1), 80);
        x.hill(7, 0, 0);
        due("one that was cold already", x.cellar(0, 60, 0), 8);
        refused(x, NONE, "by 0 quarters", () -> x.cellar(0, 0, 0));
        x.refill(0);
        bring(x, 0, 7);
        text(x, 0, "t");
        due("SOUR 0", x.cellar(0, 60, 1), 0);
        due("SOUR 0 by hill 8", x.cellar(0, 2, 0), 8);
        x.giveUp(2);
        x.refill(3);
        bring(x, 3, 9);
        x.go(1, 0);
        refused(x, STATE, "on its way", () -> x.cellar(1, 60, 0));
        refused(x, STATE, "given up", () -> x.cellar(2, 60, 0));
        refused(x, STATE, "in town", () -> x.cellar(3, 60, 0));
        for (int bad : new int[] {-1, 4, MIN, MAX}) {
            refused(x, BEYOND, "churn " + bad, () -> x.cellar(bad, 60, 0));
        }
        for (int bad : new int[] {-1, 61, MIN, MAX}) {
            refused(x, BEYOND, "n " + bad, () -> x.cellar(0, bad, 0));
        }
        for (int bad : new int[] {-1, 2, MIN, MAX}) {
            refused(x, BEYOND, "what " + bad, () -> x.cellar(3, 60, bad));
        }
        for (int i = 0; i < 4; i++) {
            x.thunder();
        }
        refused(x, STATE, "not sweet", () -> x.cellar(0, 60, 0));
    }

    private static void odds() {
        promise = 25;
        MilkHills x = new MilkHills();
        long[][] rows = {{1, 2, 225, 256}, {16, 1, 0, 1}, {16, 12, 0, 1}, {16, 0, 1, 1}, {0, 12, 1, 1}, {0, 0, 1, 1},
            {8, 3, 1, 8}, {4, 2, 9, 16}, {15, 12, 1, 1L << 48}, {3, 12, 23298085122481L, 1L << 48},
            {1, 12, 129746337890625L, 1L << 48}, {12, 1, 1, 4}, {2, 12, 13841287201L, 1L << 36}, {5, 0, 1, 1}};
        for (long[] row : rows) {
            due("above", x.odds((int) row[0], (int) row[1], 0), row[2]);
            due("below", x.odds((int) row[0], (int) row[1], 1), row[3]);
        }
        for (int bad : new int[] {-1, 17, MIN, MAX}) {
            refused(x, BEYOND, "p " + bad, () -> x.odds(bad, 1, 0));
            refused(x, BEYOND, "part " + bad, () -> x.odds(1, 1, bad));
        }
        for (int bad : new int[] {-1, 13, MIN, MAX}) {
            refused(x, BEYOND, "n " + bad, () -> x.odds(1, bad, 0));
        }
        refused(x, BEYOND, "part 2", () -> x.odds(16, 1, 2));
    }

    private static void byWhom() {
        promise = 26;
        MilkHills x = with(0, 19, 25);
        due("carrier 0", x.byWhom(0, 0, 18), 1);
        due("carrier 1", x.byWhom(0, 9999, 36), 2);
        due("carrier 3", x.byWhom(0, 5, 72), 8);
        due("none", x.byWhom(0, 5, 71), 0);
        due("below 0", x.byWhom(0, 5, MIN), 0);
        due("GOATS with m 9", x.byWhom(1, 0, 135), 4);
        due("LIDDED", x.byWhom(2, 0, 27), 4);
        x.carrier(3, 2, 20);
        due("two", x.byWhom(0, 0, 36), 10);
        x.go(0, 2);
        x.thunder();
        due("as new", x.byWhom(0, 0, 36), 10);
        x.giveUp(1);
        due("given up, as new", x.byWhom(1, 0, 45), 1);
        text(x, 0, "(q=95)+(q=0)*2");
        due("from a told quarter on", x.byWhom(0, 94, 3), 15);
        due("of the next day", x.byWhom(0, 96, 2), 15);
        due("slow ones only", x.byWhom(0, 80, 3), 14);
        for (int bad : new int[] {-1, 3, MIN, MAX}) {
            refused(x, BEYOND, "churn " + bad, () -> x.byWhom(bad, 0, 0));
        }
        for (int bad : new int[] {-1, 10000, MIN, MAX}) {
            refused(x, BEYOND, "quarter " + bad, () -> x.byWhom(0, bad, 0));
        }
    }

    // ---- promises 27 to 29

    private static void drawsAndVoices() {
        promise = 27;
        MilkHills x = new MilkHills();
        due("at first", x.seed(MIN), 1);
        due("then", x.seed(LOW - 1), MIN);
        due("no error, though it looks so", x.seed(7), LOW - 1);
        due("told", x.told(1), 0);
        due("z", x.count(9), 7);
        voices();
        traces();
    }

    /** A voice of the second CHURN (n is 1), and the trace behind it. */
    private static void voice(int km, int act, int x, int want, String trace) {
        promise = 28;
        MilkHills y = with(0, km);
        due("voice " + act + " of " + km, y.voice(1, act, x), want);
        promise = 29;
        dueAll("trace of voice " + act + " of " + km, traceOf(y), trace);
    }

    private static void voices() {
        voice(4, 0, 10, 11, "10 ");
        voice(4, 1, 10, 22, "11 10 ");
        voice(4, 2, 10, 6, "12 ");
        voice(4, 3, 10, 22 ^ 6, "13 11 10 12 ");
        voice(14, 0, 10, 11, "10 ");
        voice(14, 1, 10, 22 + 3, "20 11 10 12 ");
        voice(14, 2, 10, 6, "12 ");
        voice(14, 3, 10, 25 ^ 6, "13 20 11 10 12 12 ");
        voice(24, 0, 10, 33, "30 10 ");
        voice(24, 1, 10, 66, "11 30 10 ");
        voice(24, 3, 10, 66 ^ 6, "13 11 30 10 12 ");
        voice(34, 2, 10, -6, "40 12 ");
        voice(34, 3, 10, 22 ^ -6, "13 11 10 40 12 ");
        voice(44, 1, 10, 24 + 3, "50 20 11 10 12 ");
        voice(44, 3, 10, 27 ^ 6, "13 50 20 11 10 12 12 ");
        voice(54, 0, 10, 33, "30 10 ");
        voice(54, 3, 10, (66 ^ 6) - 9, "60 13 11 30 10 12 30 10 ");
        voice(64, 2, 10, -6 ^ 1, "70 40 12 ");
        voice(64, 3, 10, 22 - (22 ^ (-6 ^ 1)), "71 11 10 13 11 10 70 40 12 ");
        promise = 28;
        MilkHills x = with(0, 9);
        MilkHills y = with(0, 0, 0, 64, 64, 64);
        due("cools of 3", y.voice(3, 2, 10), -6 ^ 3);
        due("cools of 5", y.voice(5, 2, 10), -6 ^ 5);
        due("fills of 5", y.voice(5, 0, 10), 15);
        due("ints go round", x.voice(0, 1, MAX), -2);
        due("and round", x.voice(1, 2, MIN), MAX - 8);
        due("it looks like an error", x.voice(0, 0, LOW - 1), LOW - 1);
        due("and is not told as one", x.told(1), 0);
        for (int bad : new int[] {-1, 2, MIN, MAX}) {
            refused(x, BEYOND, "churn " + bad, () -> x.voice(bad, 0, 1));
        }
        for (int bad : new int[] {-1, 4, MIN, MAX}) {
            refused(x, BEYOND, "act " + bad, () -> x.voice(0, bad, 1));
        }
    }

    private static void traces() {
        promise = 29;
        MilkHills x = with(60);
        refused(x, NONE, "ahead of a voice", () -> x.trace(0));
        x.voice(0, 3, 1);
        due("the last", x.trace(8), 12);
        due("how many", x.count(8), 9);
        for (int bad : new int[] {-1, 9, 40, 41, MIN, MAX}) {
            refused(x, NONE, "place " + bad, () -> x.trace(bad));
        }
        x.voice(0, 4, 1);
        due("behind a refused voice", x.count(8), 9);
        x.voice(0, 0, 1);
        due("of the latest alone", x.count(8), 1);
        refused(x, NONE, "beyond the latest", () -> x.trace(1));
    }

    // ---- promises 30 to 34

    private static void sheets() {
        promise = 30;
        MilkHills x = with(0);
        due("8 bits", x.sheet(0, 8, 40), 1);
        due("16 bits", x.sheet(1, 16, 0), 1);
        due("32 bits", x.sheet(2, 32, 1), 1);
        due("all are 0", x.heats(0), 9);
        dueAll("HEAT 0", ofHill(x, 8), "0 0 10 0 0 ");
        due("0 numbers are not missing", x.heats(1), 0);
        x.put(2, 0, 3);
        due("in place of one ahead", x.sheet(2, 32, 2), 1);
        x.giveUp(0);
        due("0 again", x.judge(2), 0);
        due("missing", x.sheet(2, 0, -7), 1);
        refused(x, NONE, "missing", () -> x.heats(2));
        due("missing, n doesn't matter", x.sheet(2, 0, 99), 1);
        for (int bad : new int[] {-1, 4, MIN, MAX}) {
            refused(x, BEYOND, "sheet " + bad, () -> x.sheet(bad, 8, -1));
            refused(x, BEYOND, "missing sheet " + bad, () -> x.sheet(bad, 0, 1));
        }
        for (int bad : new int[] {-8, 1, 7, 9, 24, 64, MIN, MAX}) {
            refused(x, BEYOND, "bits " + bad, () -> x.sheet(0, bad, -1));
        }
        refused(x, STATE, "n -1", () -> x.sheet(0, 8, -1));
        refused(x, STATE, "n MIN", () -> x.sheet(0, 8, MIN));
        refused(x, BEYOND, "n 41", () -> x.sheet(0, 8, 41));
        refused(x, BEYOND, "n MAX", () -> x.sheet(0, 8, MAX));
        due("it stayed", x.put(0, 39, 1), 1);
        puts();
        moves();
        heats();
        judges();
    }

    private static void puts() {
        promise = 31;
        MilkHills x = new MilkHills();
        x.sheet(0, 8, 2);
        x.sheet(1, 16, 2);
        x.sheet(2, 32, 2);
        due("the lowest 8 bits", x.put(0, 0, 256 + 11), 1);
        due("none below 0", x.put(0, 1, -256 + 12), 1);
        due("heats", x.heats(0), 2);
        due("first", x.ofHill(0, 0), 11);
        due("second", x.ofHill(1, 0), 12);
        x.put(1, 0, 65536 * 5 + 13);
        x.put(1, 1, 256 + 5);
        due("the lowest 16 bits", x.heats(1), 1);
        due("of them", x.ofHill(0, 0), 13);
        x.put(2, 0, 65536 + 5);
        due("all 32 bits", x.heats(2), 0);
        x.put(2, 0, 40);
        x.put(2, 1, MIN);
        due("40 and the least", x.heats(2), 1);
        for (int bad : new int[] {-1, 4, MIN, MAX}) {
            refused(x, BEYOND, "sheet " + bad, () -> x.put(bad, 0, 1));
        }
        for (int bad : new int[] {-1, 2, 39, MIN, MAX}) {
            refused(x, BEYOND, "place " + bad, () -> x.put(0, bad, 1));
            refused(x, NONE, "missing ahead of place " + bad, () -> x.put(3, bad, 1));
        }
        refused(x, NONE, "missing", () -> x.put(3, 0, 1));
    }

    private static String heatsOf(MilkHills x, int sheet) {
        StringBuilder all = new StringBuilder();
        int many = x.heats(sheet);
        for (int i = 0; i < many; i++) {
            all.append(x.ofHill(i, 0)).append(' ');
        }
        return all.toString();
    }

    private static void moves() {
        promise = 32;
        MilkHills x = new MilkHills();
        x.sheet(0, 8, 6);
        x.sheet(1, 8, 4);
        x.sheet(2, 16, 4);
        for (int i = 0; i < 6; i++) {
            x.put(0, i, i + 1);
        }
        due("to the right", x.move(0, 0, 0, 2, 4), 4);
        dueAll("as they all were", heatsOf(x, 0), "1 2 1 2 3 4 ");
        due("to the left", x.move(0, 2, 0, 1, 4), 4);
        dueAll("as they all were", heatsOf(x, 0), "1 1 2 3 4 4 ");
        due("to another", x.move(0, 2, 1, 1, 3), 3);
        dueAll("there", heatsOf(x, 1), "0 2 3 4 ");
        due("none", x.move(0, 6, 1, 4, 0), 0);
        dueAll("nothing has come", heatsOf(x, 1), "0 2 3 4 ");
        for (int bad : new int[] {-1, 4, MIN, MAX}) {
            refused(x, BEYOND, "sheet " + bad, () -> x.move(bad, 0, 3, 0, 1));
            refused(x, BEYOND, "other " + bad, () -> x.move(3, 0, bad, 0, 1));
        }
        refused(x, NONE, "missing", () -> x.move(3, -1, 0, 0, 1));
        refused(x, NONE, "the other is missing", () -> x.move(0, 0, 3, 9, 1));
        refused(x, KIND, "unlike bits ahead of places", () -> x.move(0, -1, 2, 9, -1));
        int[][] rows = {{-1, 0, 1}, {0, -1, 1}, {0, 0, -1}, {0, 0, 5}, {3, 0, 4}, {0, 2, 3}, {6, 0, 1}, {0, 4, 1},
            {7, 0, 0}, {0, 5, 0}, {MAX, 0, MAX}, {0, MAX, MAX}, {1, 1, MAX}, {MAX, MAX, 1}, {MIN, 0, 1}, {0, MIN, 1},
            {0, 0, MIN}, {MIN, 0, MIN}, {40, 40, 1}};
        for (int[] row : rows) {
            refused(x, BEYOND, row[0] + ", " + row[1] + ", " + row[2], () -> x.move(0, row[0], 1, row[1], row[2]));
        }
        dueAll("nothing has come", heatsOf(x, 1), "0 2 3 4 ");
    }

    private static void heats() {
        promise = 33;
        MilkHills x = new MilkHills();
        x.sheet(0, 8, 10);
        x.put(0, 0, 40);
        x.put(0, 3, 41);
        due("up to 41", x.heats(0), 3);
        due("HEAT", x.ofHill(0, 0), 40);
        due("HEAT", x.ofHill(2, 0), 0);
        due("HEAT that stays", x.ofHill(3, 0), 8);
        x.put(0, 3, -1);
        due("up to -1", x.heats(0), 3);
        x.put(0, 3, 1);
        due("nine hills", x.heats(0), 9);
        due("HEAT", x.ofHill(3, 0), 1);
        due("no error", x.told(1) + x.told(2), 0);
        for (int bad : new int[] {-1, 4, MIN, MAX}) {
            refused(x, BEYOND, "sheet " + bad, () -> x.heats(bad));
        }
        refused(x, NONE, "missing", () -> x.heats(1));
    }

    private static void judges() {
        promise = 34;
        MilkHills x = with(0, 0, 0);
        MilkHills none = new MilkHills();
        none.sheet(0, 8, 0);
        due("no churns, no numbers", none.judge(0), -1);
        x.giveUp(1);
        for (int i = 0; i < 4; i++) {
            x.thunder();
        }
        x.refill(2);
        x.sheet(0, 8, 3);
        x.put(0, 0, 2);
        due("the second isn't so", x.judge(0), 1);
        x.put(0, 1, 3);
        due("all are", x.judge(0), -1);
        x.put(0, 2, 1);
        due("the third isn't", x.judge(0), 2);
        x.sheet(1, 8, 2);
        x.move(0, 0, 1, 0, 2);
        due("one lacks", x.judge(1), 2);
        x.sheet(2, 8, 4);
        x.move(0, 0, 2, 0, 2);
        due("one is too many", x.judge(2), 3);
        x.put(2, 1, 0);
        due("one is not so ahead of that", x.judge(2), 1);
        for (int bad : new int[] {-1, 4, MIN, MAX}) {
            refused(x, BEYOND, "sheet " + bad, () -> x.judge(bad));
        }
        refused(x, NONE, "missing", () -> x.judge(3));
    }

    // ---- promises 35 to 40

    private static void imagesAndNumbers() {
        images();
        promise = 37;
        MilkHills x = with(0, 10);
        for (int i = 1; i <= 20; i++) {
            due("waits", x.tell(4 * i), i);
        }
        refused(x, FULL, "one more", () -> x.tell(0));
        promise = 38;
        String before = allOf(x).substring(allOf(x).indexOf('|'));
        due("all are so", x.check(), 0);
        dueAll("nothing else has changed", allOf(x).substring(allOf(x).indexOf('|')), before);
        due("none wait", x.count(7), 0);
        due("QUARTER", x.count(1), 0);
        due("none waiting are so", x.check(), 0);
        x.tell(4);
        x.tell(8);
        x.tell(13);
        x.tell(0);
        due("the third isn't", x.check(), 3);
        due("none wait then", x.count(7), 0);
        x.giveUp(0);
        x.quarters(5);
        x.go(1, 1);
        x.tell(12);
        due("one given up", x.check(), 0);
        x.tell(11);
        due("not so", x.check(), 1);
        text(x, 0, "q+1");
        x.tell(16);
        x.tell(23);
        x.tell(31);
        due("WARM by quarters, on its way and there", x.check(), 0);
        MilkHills none = new MilkHills();
        none.tell(0);
        none.tell(1);
        due("without churns", none.check(), 2);
        counts();
        tolds();
    }

    private static void images() {
        promise = 35;
        MilkHills x = with(37, 14);
        x.hill(0, 1, 1);
        x.hill(1, 0, 30);
        x.brook(0);
        x.carrier(1, 3, 3);
        x.go(1, 1);
        x.quarters(2);
        x.seed(99);
        x.tell(5);
        text(x, 0, "t/5");
        text(x, 1, "77");
        feed(x, "t*");
        x.sheet(0, 8, 3);
        x.voice(0, 0, 0);
        String then = allOf(x);
        due("the first", x.image(), 1);
        dueAll("nothing has changed", allOf(x), then);
        promise = 36;
        x.churn(0);
        x.hill(1, 0, 3);
        x.hill(2, 1, 3);
        x.hill(3, 2, 3);
        x.carrier(1, 1, 1);
        x.rest(0);
        x.giveUp(0);
        x.become(0, 60);
        x.days(2);
        x.tell(6);
        text(x, 0, "1");
        text(x, 1, "1");
        x.sheet(1, 8, 4);
        x.voice(1, 1, 0);
        x.told(0);
        x.told(0);
        due("QUARTER", x.restore(), 2);
        due("the trace stays", x.count(8), 4);
        due("what is told stays", x.told(1), 2);
        x.voice(0, 0, 0);
        dueAll("as the image has it", allOf(x), then);
        due("sheets stay", x.heats(1), 4);
        due("those of the image's time, too", x.heats(0), 3);
        x.restore();
        due("the tape", x.feed('q', 1), 3);
        due("its text", x.text(0), 1);
        due("the pace", x.carrier(1, 3, 3), 30);
        imagesAgain();
    }

    private static void imagesAgain() {
        MilkHills x = new MilkHills();
        refused(x, NONE, "no image", () -> x.restore());
        x.quarters(7);
        due("once", x.image(), 1);
        x.quarters(7);
        due("back", x.restore(), 7);
        x.quarters(1);
        due("back again", x.restore(), 7);
        promise = 35;
        x.quarters(1);
        due("twice, as that is not in the image", x.image(), 2);
        x.quarters(1);
        due("the latest", x.restore(), 8);
        x.tell(1);
        x.image();
        x.check();
        x.restore();
        due("numbers that wait", x.count(7), 1);
        due("that it has", x.check(), 1);
    }

    private static void counts() {
        promise = 39;
        MilkHills x = with(0, 0, 0, 0, 0);
        bring(x, 0, 9);
        bring(x, 1, 9);
        x.go(2, 3);
        x.giveUp(3);
        x.tell(1);
        feed(x, "abc");
        x.voice(0, 1, 1);
        int[] want = {5, 18, 200, 2, 1, 4, 3, 1, 2, 1};
        for (int what = 0; what <= 9; what++) {
            due("count(" + what + ")", x.count(what), want[what]);
        }
        for (int bad : new int[] {-1, 10, MIN, MAX}) {
            refused(x, BEYOND, "what " + bad, () -> x.count(bad));
        }
    }

    private static void tolds() {
        promise = 40;
        MilkHills x = new MilkHills();
        x.churn(-1);
        x.odds(17, 0, 0);
        x.trace(0);
        x.sheet(0, 8, -1);
        x.sheet(0, 8, 1);
        x.sheet(1, 16, 1);
        x.move(0, 0, 1, 0, 1);
        x.churn(0);
        x.brook(0);
        x.brook(0);
        x.brook(0);
        due("BEYOND", x.told(1), 2);
        due("NONE", x.told(2), 1);
        due("STATE", x.told(3), 1);
        due("FULL", x.told(4), 3);
        due("KIND", x.told(5), 1);
        int beyond = 2;
        for (int bad : new int[] {0, 6, -1, MIN, MAX}) {
            due("another k", x.told(bad), LOW - BEYOND);
            beyond++;
            due("is counted, too", x.told(1), beyond);
        }
    }
}
