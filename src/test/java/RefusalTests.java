import java.util.function.Supplier;
import java.util.function.ToLongFunction;

/**
 * Each refused call: its ERROR, asked in the order in which the act tells them, and that it changes nothing but what
 * told() tells. Of two objects made alike one gets the refused call; then both are read to the bottom, also by calls
 * that change them. No object here gets more than the 512 calls for which the document speaks.
 */
public final class RefusalTests {
    private static final int LOW = -1000000000;
    private static final int BEYOND = 1;
    private static final int NONE = 2;
    private static final int STATE = 3;
    private static final int FULL = 4;
    private static final int KIND = 5;
    private static final int MIN = Integer.MIN_VALUE;
    private static final int MAX = Integer.MAX_VALUE;

    /** The CHURNS of rich(), by how they are there. */
    private static final int TURNED = 0;
    private static final int GIVEN = 1;
    private static final int THERE = 2;
    private static final int SWEET = 3;
    private static final int COOLED = 4;
    private static final int GOING = 5;

    private static String promise;
    private static Supplier<MilkHills> state;
    private static String left;
    private static int wrong;
    private static int asked;

    private RefusalTests() {
    }

    public static void main(String[] args) {
        hills();
        churns();
        orders();
        texts();
        quarterHours();
        whatWouldBe();
        draws();
        sheets();
        images();
        System.out.println(wrong == 0 ? asked + " refusals as promised" : wrong + " refusals are not as promised");
        if (wrong != 0) {
            System.exit(1);
        }
    }

    // ---- what the tests share

    /** Each promise begins with a rich object. */
    private static void about(int number) {
        promise = "promise " + number;
        in(RefusalTests::rich);
    }

    private static void in(Supplier<MilkHills> of) {
        state = of;
        left = read(of.get());
    }

    private static void refused(int k, String what, ToLongFunction<MilkHills> call) {
        asked++;
        MilkHills x = state.get();
        int[] told = new int[6];
        for (int i = 1; i <= 5; i++) {
            told[i] = x.told(i);
        }
        due(what, call.applyAsLong(x), LOW - k);
        for (int i = 1; i <= 5; i++) {
            due(what + ", told(" + i + ")", x.told(i), told[i] + (i == k ? 1 : 0));
        }
        String behind = read(x);
        if (!behind.equals(left)) {
            wrong++;
            System.out.println(promise + ": " + what + " leaves\n" + behind + "\ninstead of\n" + left);
        }
    }

    /** It isn't refused: what stands just inside of a bound. */
    private static void taken(String what, ToLongFunction<MilkHills> call) {
        asked++;
        long got = call.applyAsLong(state.get());
        if (got < LOW && got >= LOW - KIND) {
            wrong++;
            System.out.println(promise + ": " + what + " is refused by " + got);
        }
    }

    private static void due(String what, long got, long want) {
        if (got != want) {
            wrong++;
            System.out.println(promise + ": " + what + " is " + got + ", due is " + want);
        }
    }

    private static void feed(MilkHills x, String text) {
        for (int i = 0; i < text.length(); i++) {
            x.feed(text.charAt(i), 1);
        }
    }

    private static void law(MilkHills x, int use, String text) {
        feed(x, text);
        x.text(use);
    }

    /** All that is held in it, in some 330 calls; told() is left out. */
    private static String read(MilkHills x) {
        StringBuilder all = new StringBuilder();
        seen(x, all);
        for (int i = 0; i < x.count(8); i++) {
            all.append(x.trace(i)).append(' ');
        }
        // What waits is told of ahead of the rest, as that changes HEATS, and so what would be so.
        all.append("\nnumbers and tape ").append(x.check()).append(' ');
        all.append(x.text(0)).append(' ').append(x.law(0, 7, 9, 0)).append(' ');
        sheetsOf(x, all.append("\nsheets "));
        carriersOf(x, all.append("\ncarriers "));
        all.append("\nimage ").append(x.image()).append(' ');
        return all.toString();
    }

    private static void seen(MilkHills x, StringBuilder all) {
        all.append("counts ");
        for (int what = 0; what <= 9; what++) {
            all.append(x.count(what)).append(' ');
        }
        all.append("\nhills ");
        for (int hill = 0; hill <= 8; hill++) {
            for (int what = 0; what <= 3; what++) {
                all.append(x.ofHill(hill, what)).append(' ');
            }
        }
        all.append("\nchurns ");
        for (int churn = 0; churn < x.count(0); churn++) {
            for (int what = 0; what <= 9; what++) {
                all.append(x.ofChurn(churn, what)).append(' ');
            }
        }
        all.append("\nlaws ").append(x.law(0, 12, 40, 0)).append(' ').append(x.law(1, 1, 2, 3)).append(' ');
    }

    /** Of each its length, its first numbers, and its bits by what may come to it from a row of 16. */
    private static void sheetsOf(MilkHills x, StringBuilder all) {
        int[] last = {2, 3, 1, 0};
        for (int sheet = 0; sheet < 4; sheet++) {
            int many = x.heats(sheet);
            all.append(many).append(": ");
            for (int i = 0; i < many; i++) {
                all.append(x.ofHill(i, 0)).append(' ');
            }
            all.append(x.judge(sheet)).append(' ').append(x.put(sheet, last[sheet], 1)).append(' ');
            all.append(x.put(sheet, last[sheet] + 1, 1)).append(' ').append(x.move(2, 0, sheet, 0, 1)).append("; ");
        }
    }

    private static void carriersOf(MilkHills x, StringBuilder all) {
        if (x.count(0) == 0) {
            return;
        }
        for (int carrier = 0; carrier < 4; carrier++) {
            x.refill(0);
            all.append(x.go(0, carrier)).append(' ').append(x.quarters(1)).append(' ');
            all.append(x.ofChurn(0, 6)).append(' ').append(x.carrier(carrier, 1, 0)).append(' ');
        }
        int back = x.restore();
        all.append("\nrestored ").append(back).append(' ');
        if (back >= 0) {
            seen(x, all);
            all.append(x.text(1)).append(' ').append(x.check()).append(' ').append(x.carrier(1, 1, 1));
        }
    }

    // ---- objects that are made alike

    /** A CHURN of each way to be, an IMAGE, SHEETS, TEXTS, a TAPE, numbers that wait, ERRORS that have been told. */
    private static MilkHills rich() {
        MilkHills x = new MilkHills();
        x.churn(0);
        for (int i = 0; i < 4; i++) {
            x.thunder();
        }
        x.churn(58);
        x.quarters(1);
        x.giveUp(GIVEN);
        x.churn(30);
        law(x, 0, "0");
        x.carrier(3, 1, 0);
        for (int i = 0; i < 9; i++) {
            x.go(THERE, 3);
            x.quarters(1);
        }
        law(x, 0, "t/4+q%2");
        law(x, 1, "r+s");
        feed(x, "7+");
        x.tell(3);
        x.seed(5);
        x.image();
        x.churn(14);
        x.churn(25);
        x.churn(4);
        x.hill(0, 1, 1);
        x.hill(2, 0, 24);
        x.hill(3, 2, 44);
        x.carrier(1, 5, 11);
        x.carrier(2, 3, 2);
        x.brook(COOLED);
        x.go(GOING, 1);
        x.quarters(1);
        x.seed(77);
        enrich(x);
        return x;
    }

    private static void enrich(MilkHills x) {
        x.text(1);
        law(x, 1, "r+s+m");
        feed(x, "t*");
        x.check();
        int[] sums = new int[2];
        for (int churn = 0; churn < 6; churn++) {
            sums[0] += x.then(1, churn, 5);
            sums[1] += x.then(2, churn, 5);
        }
        x.tell(sums[0]);
        x.tell(sums[1]);
        x.sheet(0, 8, 3);
        x.put(0, 0, 5);
        x.put(0, 1, 6);
        x.sheet(1, 8, 4);
        x.put(1, 0, 2);
        x.put(1, 1, 3);
        x.sheet(2, 16, 2);
        x.put(2, 1, 9);
        x.voice(SWEET, 3, 5);
        x.trace(-1);
        x.brook(SWEET);
        x.as(TURNED, 1);
    }

    /** Two CHURNS, so that one more could be made. */
    private static MilkHills small() {
        MilkHills x = new MilkHills();
        x.churn(12);
        x.churn(3);
        return x;
    }

    private static MilkHills late() {
        MilkHills x = small();
        for (int i = 0; i < 33; i++) {
            x.quarters(300);
        }
        x.quarters(83);
        return x;
    }

    private static MilkHills fullTape() {
        MilkHills x = small();
        for (int i = 0; i < 48; i++) {
            x.feed(i % 2 == 0 ? '1' : '+', 1);
        }
        return x;
    }

    private static MilkHills fullNumbers() {
        MilkHills x = small();
        for (int i = 1; i <= 20; i++) {
            x.tell(x.then(i, 0, 5) + x.then(i, 1, 5));
        }
        return x;
    }

    // ---- promises 2 to 4

    private static void hills() {
        about(2);
        for (int hill : new int[] {-1, 9, MIN, MAX}) {
            refused(BEYOND, "hill " + hill, x -> x.hill(hill, 0, 1));
        }
        for (int what : new int[] {-1, 3, MIN, MAX}) {
            refused(BEYOND, "what " + what, x -> x.hill(0, what, 1));
        }
        int[] most = {40, 3, 99};
        for (int what = 0; what <= 2; what++) {
            int w = what;
            for (int v : new int[] {-1, most[what] + 1, MIN, MAX}) {
                refused(BEYOND, w + " of hill 0 becomes " + v, x -> x.hill(0, w, v));
                refused(BEYOND, w + " of hill 8 becomes " + v, x -> x.hill(8, w, v));
            }
            taken("least", x -> x.hill(1, w, 0));
            taken("most", x -> x.hill(8, w, most[w]));
        }
        refused(STATE, "ROOM 0 with one in it", x -> x.hill(0, 1, 0));
        taken("ROOM 1 with one in it", x -> x.hill(0, 1, 1));
        about(3);
        for (int bad : new int[] {-1, 9, MIN, MAX}) {
            refused(BEYOND, "hill " + bad, x -> x.ofHill(bad, 0));
        }
        for (int bad : new int[] {-1, 5, MIN, MAX}) {
            refused(BEYOND, "what " + bad, x -> x.ofHill(8, bad));
        }
        about(4);
        for (int bad : new int[] {-1, 4, MIN, MAX}) {
            refused(BEYOND, "carrier " + bad, x -> x.carrier(bad, 1, 1));
        }
        for (int bad : new int[] {-1, 0, 10, MIN, MAX}) {
            refused(BEYOND, "pace " + bad, x -> x.carrier(1, bad, 1));
        }
        for (int bad : new int[] {-1, 21, MIN, MAX}) {
            refused(BEYOND, "shake " + bad, x -> x.carrier(1, 2, bad));
        }
        taken("the least", x -> x.carrier(0, 1, 0));
        taken("the most", x -> x.carrier(3, 9, 20));
    }

    // ---- promises 5 to 8

    private static void churns() {
        about(5);
        in(RefusalTests::small);
        for (int bad : new int[] {-1, -10, 70, MIN, MAX}) {
            refused(BEYOND, "km " + bad, x -> x.churn(bad));
        }
        taken("km 69", x -> x.churn(69));
        taken("km 0", x -> x.churn(0));
        in(RefusalTests::rich);
        refused(FULL, "a seventh", x -> x.churn(0));
        refused(FULL, "a seventh of km 69", x -> x.churn(69));
        refused(BEYOND, "km 70 ahead of FULL", x -> x.churn(70));
        refused(BEYOND, "km -1 ahead of FULL", x -> x.churn(-1));
        about(6);
        noSuchChurn((x, churn) -> x.ofChurn(churn, 0));
        for (int bad : new int[] {-1, 10, MIN, MAX}) {
            refused(BEYOND, "what " + bad, x -> x.ofChurn(SWEET, bad));
        }
        about(7);
        noSuchChurn((x, churn) -> x.become(churn, 0));
        for (int bad : new int[] {-1, 70, MIN, MAX}) {
            refused(BEYOND, "km " + bad, x -> x.become(SWEET, bad));
        }
        taken("km 69", x -> x.become(5, 69));
        about(8);
        noSuchChurn((x, churn) -> x.as(churn, 0));
        for (int bad : new int[] {-1, 7, MIN, MAX}) {
            refused(BEYOND, "kind " + bad, x -> x.as(SWEET, bad));
        }
        for (int bad : new int[] {2, 3, 4, 5, 6}) {
            refused(KIND, "GOATS as " + bad, x -> x.as(SWEET, bad));
        }
        refused(KIND, "SEALED as OLD", x -> x.as(GIVEN, 6));
        in(RefusalTests::small);
        refused(BEYOND, "churn 2 of two", x -> x.as(2, 0));
        taken("churn 1 of two", x -> x.as(1, 0));
    }

    private interface OfChurn {
        long call(MilkHills x, int churn);
    }

    /** The bound is how many there are, not how many there may be. */
    private static void noSuchChurn(OfChurn act) {
        for (int bad : new int[] {-1, 6, MIN, MAX}) {
            refused(BEYOND, "churn " + bad, x -> act.call(x, bad));
        }
        Supplier<MilkHills> was = state;
        in(RefusalTests::small);
        refused(BEYOND, "churn 2 of two", x -> act.call(x, 2));
        in(MilkHills::new);
        refused(BEYOND, "churn 0 of none", x -> act.call(x, 0));
        in(was);
    }

    // ---- promises 9 to 13

    private static void orders() {
        about(9);
        noSuchChurn((x, churn) -> x.go(churn, 0));
        for (int bad : new int[] {-1, 4, MIN, MAX}) {
            refused(BEYOND, "carrier " + bad, x -> x.go(SWEET, bad));
            refused(BEYOND, "carrier " + bad + " ahead of STATE", x -> x.go(GOING, bad));
        }
        standing((x, churn) -> x.go(churn, 3));
        taken("from the brook", x -> x.go(COOLED, 0));
        taken("whey", x -> x.go(TURNED, 3));
        about(10);
        noSuchChurn((x, churn) -> x.brook(churn));
        standing((x, churn) -> x.brook(churn));
        refused(STATE, "in it, ahead of FULL", x -> x.brook(COOLED));
        refused(FULL, "ROOM for one", x -> x.brook(SWEET));
        refused(FULL, "ROOM for one, whey", x -> x.brook(TURNED));
        in(RefusalTests::small);
        refused(FULL, "ROOM for none", x -> x.brook(0));
        about(11);
        noSuchChurn((x, churn) -> x.rest(churn));
        standing((x, churn) -> x.rest(churn));
        refused(STATE, "it RESTS", x -> x.rest(SWEET));
        taken("in the brook", x -> x.rest(COOLED));
        about(12);
        noSuchChurn((x, churn) -> x.giveUp(churn));
        standing((x, churn) -> x.giveUp(churn));
        taken("in the brook", x -> x.giveUp(COOLED));
        taken("whey", x -> x.giveUp(TURNED));
        about(13);
        noSuchChurn((x, churn) -> x.refill(churn));
        for (int churn = 0; churn < 6; churn++) {
            int c = churn;
            taken("churn " + churn, x -> x.refill(c));
        }
    }

    private static void standing(OfChurn act) {
        refused(STATE, "on its WAY", x -> act.call(x, GOING));
        refused(STATE, "IN TOWN", x -> act.call(x, THERE));
        refused(STATE, "GIVEN UP", x -> act.call(x, GIVEN));
    }

    // ---- promises 14 to 16

    private static void texts() {
        about(14);
        for (int bad : new int[] {-1, 0, 9, MIN, MAX}) {
            refused(BEYOND, "n " + bad, x -> x.feed(0x3131313131313131L, bad));
        }
        in(RefusalTests::fullTape);
        for (int n = 3; n <= 8; n++) {
            int many = n;
            refused(FULL, n + " to 48", x -> x.feed(0x3131313131313131L, many));
        }
        refused(BEYOND, "n 9 ahead of FULL", x -> x.feed(1, 9));
        refused(BEYOND, "n 0 ahead of FULL", x -> x.feed(1, 0));
        taken("2 to 48", x -> x.feed(1, 2));
        in(() -> {
            MilkHills x = fullTape();
            x.feed(0x3131, 2);
            return x;
        });
        refused(FULL, "1 to 50", x -> x.feed('1', 1));
        about(15);
        for (int bad : new int[] {-1, 2, MIN, MAX}) {
            refused(BEYOND, "use " + bad, x -> x.text(bad));
        }
        about(16);
        for (int bad : new int[] {-1, 2, MIN, MAX}) {
            refused(BEYOND, "use " + bad, x -> x.law(bad, 1, 2, 3));
        }
    }

    // ---- promises 17 to 20

    private static void quarterHours() {
        about(17);
        for (int bad : new int[] {-1, 0, 301, MIN, MAX}) {
            refused(BEYOND, "n " + bad, x -> x.quarters(bad));
        }
        taken("1", x -> x.quarters(1));
        taken("300", x -> x.quarters(300));
        in(RefusalTests::late);
        refused(STATE, "from 9983 to 10000", x -> x.quarters(17));
        refused(STATE, "from 9983, 300", x -> x.quarters(300));
        refused(BEYOND, "301 ahead of STATE", x -> x.quarters(301));
        taken("from 9983 to 9999", x -> x.quarters(16));
        about(18);
        in(RefusalTests::late);
        refused(STATE, "from 9983, 2 days", x -> x.days(2));
        refused(STATE, "from 9983, 20 days", x -> x.days(20));
        refused(BEYOND, "21 ahead of STATE", x -> x.days(21));
        refused(BEYOND, "0 ahead of STATE", x -> x.days(0));
        taken("from 9983 to 9999", x -> x.days(1));
        in(() -> {
            MilkHills x = late();
            x.quarters(1);
            return x;
        });
        refused(STATE, "from 9984, 1 day", x -> x.days(1));
        in(RefusalTests::rich);
        for (int bad : new int[] {-1, 0, 21, MIN, MAX}) {
            refused(BEYOND, "n " + bad, x -> x.days(bad));
        }
        taken("1", x -> x.days(1));
        taken("20", x -> x.days(20));
        about(20);
        for (int bad : new int[] {-1, 301, MIN, MAX}) {
            refused(BEYOND, "n " + bad, x -> x.then(bad, SWEET, 5));
        }
        taken("0", x -> x.then(0, SWEET, 2));
        taken("300", x -> x.then(300, SWEET, 7));
        noSuchChurn((x, churn) -> x.then(1, churn, 5));
        for (int bad : new int[] {-1, 0, 1, 8, 9, MIN, MAX}) {
            refused(BEYOND, "what " + bad, x -> x.then(1, SWEET, bad));
        }
    }

    // ---- promises 21 to 26

    private static void whatWouldBe() {
        about(21);
        noSuchChurn((x, churn) -> x.relays(churn, 60, -1));
        for (int bad : new int[] {-1, 61, MIN, MAX}) {
            refused(BEYOND, "n " + bad, x -> x.relays(SWEET, bad, -1));
            refused(BEYOND, "n " + bad + " ahead of STATE", x -> x.relays(GOING, bad, -1));
        }
        for (int bad : new int[] {-2, 9, MIN, MAX}) {
            refused(BEYOND, "what " + bad, x -> x.relays(SWEET, 60, bad));
            refused(BEYOND, "what " + bad + " ahead of STATE", x -> x.relays(THERE, 60, bad));
        }
        standing((x, churn) -> x.relays(churn, 60, -1));
        standing((x, churn) -> x.relays(churn, 0, 8));
        refused(STATE, "whey", x -> x.relays(TURNED, 60, -1));
        refused(NONE, "by 0 QUARTERS", x -> x.relays(SWEET, 0, -1));
        refused(NONE, "by 8 QUARTERS", x -> x.relays(SWEET, 8, 0));
        taken("by 60 QUARTERS", x -> x.relays(SWEET, 60, 8));
        about(22);
        noSuchChurn((x, churn) -> x.turnsAt(churn, 0));
        for (int bad : new int[] {-1, 4, MIN, MAX}) {
            refused(BEYOND, "carrier " + bad, x -> x.turnsAt(SWEET, bad));
            refused(BEYOND, "carrier " + bad + " ahead of STATE", x -> x.turnsAt(TURNED, bad));
        }
        standing((x, churn) -> x.turnsAt(churn, 0));
        refused(STATE, "whey", x -> x.turnsAt(TURNED, 0));
        taken("from the brook", x -> x.turnsAt(COOLED, 3));
        about(23);
        noSuchChurn((x, churn) -> x.bestGiven(churn, 0, 0));
        for (int bad : new int[] {-1, 4, MIN, MAX}) {
            refused(BEYOND, "carrier " + bad, x -> x.bestGiven(SWEET, bad, 0));
        }
        for (int bad : new int[] {-1, 2, MIN, MAX}) {
            refused(BEYOND, "what " + bad, x -> x.bestGiven(SWEET, 0, bad));
            refused(BEYOND, "what " + bad + " ahead of STATE", x -> x.bestGiven(GIVEN, 0, bad));
        }
        standing((x, churn) -> x.bestGiven(churn, 3, 1));
        taken("whey", x -> x.bestGiven(TURNED, 0, 1));
        cellars();
        odds();
    }

    private static void cellars() {
        about(24);
        noSuchChurn((x, churn) -> x.cellar(churn, 60, 0));
        for (int bad : new int[] {-1, 61, MIN, MAX}) {
            refused(BEYOND, "n " + bad, x -> x.cellar(SWEET, bad, 0));
        }
        for (int bad : new int[] {-1, 2, MIN, MAX}) {
            refused(BEYOND, "what " + bad, x -> x.cellar(SWEET, 60, bad));
            refused(BEYOND, "what " + bad + " ahead of STATE", x -> x.cellar(THERE, 60, bad));
        }
        standing((x, churn) -> x.cellar(churn, 60, 1));
        standing((x, churn) -> x.cellar(churn, 0, 1));
        refused(STATE, "whey", x -> x.cellar(TURNED, 60, 0));
        refused(NONE, "by 0 QUARTERS", x -> x.cellar(SWEET, 0, 0));
        refused(NONE, "by 8 QUARTERS", x -> x.cellar(SWEET, 8, 1));
        taken("by 60 QUARTERS", x -> x.cellar(SWEET, 60, 1));
    }

    private static void odds() {
        about(25);
        for (int bad : new int[] {-1, 17, MIN, MAX}) {
            refused(BEYOND, "p " + bad, x -> x.odds(bad, 1, 0));
        }
        for (int bad : new int[] {-1, 13, MIN, MAX}) {
            refused(BEYOND, "n " + bad, x -> x.odds(1, bad, 1));
        }
        for (int bad : new int[] {-1, 2, MIN, MAX}) {
            refused(BEYOND, "part " + bad, x -> x.odds(1, 1, bad));
        }
        taken("the most", x -> x.odds(16, 12, 1));
        taken("the least", x -> x.odds(0, 0, 0));
        about(26);
        noSuchChurn((x, churn) -> x.byWhom(churn, 0, 9));
        for (int bad : new int[] {-1, 10000, MIN, MAX}) {
            refused(BEYOND, "quarter " + bad, x -> x.byWhom(SWEET, bad, 9));
        }
        for (int sour : new int[] {MIN, -1, 0, 10000, MAX}) {
            taken("SOUR " + sour, x -> x.byWhom(GOING, 9999, sour));
        }
    }

    // ---- promises 28, 29

    private static void draws() {
        about(28);
        noSuchChurn((x, churn) -> x.voice(churn, 0, 9));
        for (int bad : new int[] {-1, 4, MIN, MAX}) {
            refused(BEYOND, "act " + bad, x -> x.voice(COOLED, bad, 9));
        }
        about(29);
        for (int bad : new int[] {-1, 6, 7, 39, 40, 41, MIN, MAX}) {
            refused(NONE, "place " + bad, x -> x.trace(bad));
        }
        taken("the last of six", x -> x.trace(5));
        in(RefusalTests::small);
        refused(NONE, "ahead of a voice", x -> x.trace(0));
    }

    // ---- promises 30 to 34

    private static void sheets() {
        about(30);
        for (int bad : new int[] {-1, 4, MIN, MAX}) {
            refused(BEYOND, "sheet " + bad, x -> x.sheet(bad, 8, 1));
            refused(BEYOND, "sheet " + bad + " that would be missing", x -> x.sheet(bad, 0, 1));
        }
        for (int bad : new int[] {-8, -1, 1, 7, 9, 15, 17, 24, 31, 33, 64, MIN, MAX}) {
            refused(BEYOND, "bits " + bad, x -> x.sheet(0, bad, 1));
        }
        for (int bits : new int[] {8, 16, 32}) {
            refused(STATE, "n -1 of " + bits, x -> x.sheet(0, bits, -1));
            refused(STATE, "n MIN of " + bits, x -> x.sheet(0, bits, MIN));
            refused(BEYOND, "n 41 of " + bits, x -> x.sheet(0, bits, 41));
            refused(BEYOND, "n MAX of " + bits, x -> x.sheet(0, bits, MAX));
            taken("n 0 of " + bits, x -> x.sheet(0, bits, 0));
            taken("n 40 of " + bits, x -> x.sheet(3, bits, 40));
        }
        for (int n : new int[] {MIN, -1, 0, 41, MAX}) {
            taken("missing, n " + n, x -> x.sheet(0, 0, n));
        }
        puts();
        moves();
        heatsAndJudges();
    }

    private static void puts() {
        about(31);
        for (int bad : new int[] {-1, 4, MIN, MAX}) {
            refused(BEYOND, "sheet " + bad, x -> x.put(bad, 0, 1));
        }
        for (int i : new int[] {-1, 0, 40, MIN, MAX}) {
            refused(NONE, "missing, place " + i, x -> x.put(3, i, 1));
        }
        for (int bad : new int[] {-1, 3, 39, 40, MIN, MAX}) {
            refused(BEYOND, "place " + bad, x -> x.put(0, bad, 1));
        }
        taken("the last", x -> x.put(0, 2, 1));
        in(() -> {
            MilkHills x = rich();
            x.sheet(0, 8, 0);
            return x;
        });
        refused(BEYOND, "a place of none", x -> x.put(0, 0, 1));
    }

    private static void moves() {
        about(32);
        for (int bad : new int[] {-1, 4, MIN, MAX}) {
            refused(BEYOND, "sheet " + bad, x -> x.move(bad, 0, 0, 0, 1));
            refused(BEYOND, "another sheet " + bad, x -> x.move(0, 0, bad, 0, 1));
            refused(BEYOND, "sheet " + bad + " ahead of NONE", x -> x.move(bad, 0, 3, 0, 1));
            refused(BEYOND, "another sheet " + bad + " ahead of NONE", x -> x.move(3, 0, bad, 0, 1));
        }
        refused(NONE, "missing", x -> x.move(3, 0, 0, 0, 1));
        refused(NONE, "another that is missing", x -> x.move(0, 0, 3, 0, 1));
        refused(NONE, "both missing", x -> x.move(3, 0, 3, 0, 0));
        refused(NONE, "missing ahead of KIND and BEYOND", x -> x.move(3, -1, 2, -1, -1));
        refused(KIND, "8 to 16 bits", x -> x.move(0, 0, 2, 0, 1));
        refused(KIND, "16 to 8 bits", x -> x.move(2, 0, 0, 0, 1));
        refused(KIND, "none of them", x -> x.move(0, 0, 2, 0, 0));
        refused(KIND, "unlike bits ahead of BEYOND", x -> x.move(0, -1, 2, 40, -1));
        int[][] rows = {{0, 0, -1}, {-1, 0, 1}, {0, -1, 1}, {-1, 0, 0}, {0, -1, 0}, {0, 0, 4}, {1, 0, 3}, {2, 0, 2},
            {3, 0, 1}, {0, 2, 3}, {0, 3, 2}, {0, 4, 1}, {4, 0, 0}, {0, 5, 0}, {0, 0, MAX}, {0, 0, MIN}, {MAX, 0, 1},
            {MIN, 0, 1}, {0, MAX, 1}, {0, MIN, 1}, {MAX, 0, MAX}, {1, 0, MAX}, {0, 1, MAX}, {MIN, 0, MIN}};
        for (int[] row : rows) {
            refused(BEYOND, row[0] + ", " + row[1] + ", " + row[2], x -> x.move(0, row[0], 1, row[1], row[2]));
        }
        taken("all of them", x -> x.move(0, 0, 1, 1, 3));
        taken("none behind the last", x -> x.move(0, 3, 1, 4, 0));
        taken("the last to the last", x -> x.move(0, 2, 1, 3, 1));
    }

    private static void heatsAndJudges() {
        about(33);
        for (int bad : new int[] {-1, 4, MIN, MAX}) {
            refused(BEYOND, "sheet " + bad, x -> x.heats(bad));
        }
        refused(NONE, "missing", x -> x.heats(3));
        about(34);
        for (int bad : new int[] {-1, 4, MIN, MAX}) {
            refused(BEYOND, "sheet " + bad, x -> x.judge(bad));
        }
        refused(NONE, "missing", x -> x.judge(3));
    }

    // ---- promises 36 to 40

    private static void images() {
        about(36);
        in(RefusalTests::small);
        refused(NONE, "no image", x -> x.restore());
        in(MilkHills::new);
        refused(NONE, "no image, nothing at all", x -> x.restore());
        about(37);
        in(RefusalTests::fullNumbers);
        for (int v : new int[] {MIN, 0, 81, MAX}) {
            refused(FULL, "a twenty-first", x -> x.tell(v));
        }
        about(39);
        for (int bad : new int[] {-1, 10, MIN, MAX}) {
            refused(BEYOND, "what " + bad, x -> x.count(bad));
        }
        about(40);
        for (int bad : new int[] {-1, 0, 6, MIN, MAX}) {
            refused(BEYOND, "k " + bad, x -> x.told(bad));
        }
    }
}
