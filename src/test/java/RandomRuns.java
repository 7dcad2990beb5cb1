import java.lang.reflect.InvocationTargetException;
import java.lang.reflect.Method;
import java.util.HashMap;
import java.util.Map;
import java.util.Random;

/** Runs of random calls, at home and far out of bounds, on MilkHills and on the Model: all answers are alike. */
public final class RandomRuns {
    private static final String[] NAMES = {
        "hill", "hill", "hill", "ofHill", "carrier", "carrier", "churn", "churn", "ofChurn", "become", "as",
        "go", "go", "go", "go", "go", "go", "brook", "brook", "rest", "giveUp", "refill", "refill", "feed", "text",
        "law", "quarters", "quarters", "quarters", "quarters", "days", "thunder", "then", "relays", "relays",
        "turnsAt", "turnsAt", "bestGiven", "bestGiven", "cellar", "odds", "byWhom", "byWhom", "seed", "voice",
        "trace", "sheet", "put", "put", "move", "heats", "judge", "image", "restore", "tell", "tell", "check",
        "count", "told"
    };
    private static final int[] EXTREMES = {
        Integer.MIN_VALUE, Integer.MIN_VALUE + 1, -1000000001, -65536, -2, -1, 0, 1, 2, 10, 40, 41, 60, 61, 100, 255,
        256, 301, 9999, 10000, 65536, 1000000000, Integer.MAX_VALUE - 1, Integer.MAX_VALUE
    };

    private final Random random;
    private final int run;
    private final boolean calm;
    private final MilkHills hills = new MilkHills();
    private final Model model = new Model();
    private final StringBuilder said = new StringBuilder();
    private int made;
    private int wrong;
    private static final Map<String, Method> METHODS = new HashMap<>();
    private static final Map<String, Integer> GOOD = new HashMap<>();

    private RandomRuns(int run) {
        this.run = run;
        this.random = new Random(run);
        this.calm = run % 3 != 0;
    }

    public static void main(String[] args) {
        int runs = args.length > 0 ? Integer.parseInt(args[0]) : 400;
        for (Method m : MilkHills.class.getDeclaredMethods()) {
            METHODS.put(m.getName(), m);
        }
        int wrong = 0;
        for (int run = 1; run <= runs && wrong == 0; run++) {
            wrong += new RandomRuns(run).all();
        }
        if (args.length > 1) {
            System.out.println(GOOD);
        }
        System.out.println(wrong == 0 ? "random runs: all answers are alike" : "random runs: unlike answers");
        if (wrong != 0) {
            System.exit(1);
        }
    }

    private int all() {
        if (calm) {
            prepare();
        }
        // All is read but once, as an object is used for at most 512 calls.
        int last = 40 + random.nextInt(290);
        while (made < last && wrong == 0) {
            if (random.nextInt(25) == 0) {
                feedText();
            } else {
                String name = NAMES[random.nextInt(NAMES.length)];
                call(name, arguments(name));
            }
        }
        readAll();
        if (made > 512) {
            throw new IllegalStateException(made + " calls on one object");
        }
        return wrong;
    }

    /** Mild carriers and hills, as else there would hardly ever be relays. */
    private void prepare() {
        for (int i = 0; i < 4; i++) {
            call("carrier", 1 + i, random.nextInt(4) + 1, random.nextInt(5));
            call("carrier", i, random.nextInt(4) + 1, random.nextInt(5));
        }
        for (int i = 0; i < 9; i++) {
            call("hill", i, 0, random.nextInt(24));
            call("hill", i, 1, random.nextInt(3));
        }
        for (int i = 0; i < 3; i++) {
            call("churn", random.nextInt(70));
        }
    }

    private long[] arguments(String name) {
        switch (name) {
            case "hill": return hillArguments();
            case "ofHill": return row(wild(0, 8), wild(0, 4));
            case "carrier": return row(wild(0, 3), wild(1, calm ? 3 : 9), wild(0, calm ? 4 : 20));
            case "churn": return row(wild(0, 69));
            case "ofChurn": return row(churn(), wild(0, 9));
            case "become": return row(churn(), wild(0, 69));
            case "as": return row(churn(), wild(0, 6));
            case "go": return row(churn(), wild(0, 3));
            case "brook": case "rest": case "giveUp": case "refill": return row(churn());
            case "feed": return row(random.nextLong(), wild(1, 8));
            case "text": return row(wild(0, 1));
            case "law": return row(wild(0, 1), any(), any(), any());
            case "quarters": return row(random.nextInt(6) > 0 ? 1 + random.nextInt(4) : wild(1, 300));
            case "days": return row(random.nextInt(3) > 0 ? 1 : wild(1, 20));
            case "then": return row(wild(0, 300), churn(), wild(2, 7));
            case "relays": return row(churn(), random.nextInt(2) == 0 ? 25 : wild(0, 60), wild(-1, 8));
            case "turnsAt": return row(churn(), wild(0, 3));
            case "bestGiven": return row(churn(), wild(0, 3), wild(0, 1));
            case "cellar": return row(churn(), random.nextInt(2) == 0 ? 25 : wild(0, 60), wild(0, 1));
            case "odds": return row(wild(0, 16), wild(0, 12), wild(0, 1));
            case "byWhom": return byWhomArguments();
            case "seed": case "told": case "count": case "trace": return row(any());
            case "voice": return row(churn(), wild(0, 3), any());
            case "sheet": return row(wild(0, 3), 8 * wild(0, 4), wild(0, 40));
            case "put": return row(wild(0, 3), wild(0, 12), random.nextInt(2) == 0 ? wild(0, 3) : any());
            case "move": return row(wild(0, 3), wild(0, 9), wild(0, 3), wild(0, 9), wild(0, 6));
            case "heats": case "judge": return row(wild(0, 3));
            case "tell": return tellArguments();
            default: return row();
        }
    }

    private long[] hillArguments() {
        int what = wild(0, 2);
        int most = what == 0 ? calm ? 20 : 40 : what == 1 ? 3 : 99;
        return row(wild(0, 8), what, wild(0, most));
    }

    /** Mostly the SOUR that one of the carriers does bring, as no other number has an answer but 0. */
    private long[] byWhomArguments() {
        int churn = churn();
        int quarter = wild(0, 9999);
        int sour = any();
        for (int i = 0; i < 200; i++) {
            if (random.nextInt(3) > 0 && model.call("byWhom", row(churn, quarter, i)) > 0) {
                sour = i;
            }
        }
        // The calls for finding it are the model's alone: their refusals are taken back.
        model.told[1] = (int) hillsAnswer("told", row(1));
        return row(churn, quarter, sour);
    }

    /** Mostly what will be so, so that a check comes further than its first number. */
    private long[] tellArguments() {
        if (random.nextInt(4) == 0) {
            return row(any());
        }
        long sum = 0;
        long behind = model.call("count", row(7)) + 1;
        for (int i = 0; i < model.call("count", row(0)); i++) {
            sum += model.call("then", row(behind, i, 5));
        }
        return row(sum);
    }

    private void feedText() {
        StringBuilder text = new StringBuilder();
        int use = random.nextInt(2);
        write(text, use == 0 ? "tq" : "srm", random.nextInt(6), 0);
        if (random.nextInt(3) == 0 && text.length() > 0) {
            text.setCharAt(random.nextInt(text.length()), "tqsrm()!|&<=>+-*/%0123456789 x".charAt(random.nextInt(30)));
        }
        if (random.nextInt(12) == 0) {
            text.setLength(random.nextInt(text.length() + 1));
        }
        text.setLength(Math.min(text.length(), 50 - (int) model.call("count", row(6))));
        for (int at = 0; at < text.length(); at += 8) {
            long word = random.nextLong();
            int n = Math.min(8, text.length() - at);
            for (int i = 0; i < n; i++) {
                word = word & ~(255L << 8 * i) | (long) text.charAt(at + i) << 8 * i;
            }
            call("feed", word, n);
        }
        call("text", use);
        call("law", use, random.nextInt(41), random.nextInt(96), random.nextInt(10));
    }

    private void write(StringBuilder text, String names, int joints, int open) {
        single(text, names, open);
        for (int i = 0; i < joints; i++) {
            text.append("|&<=>++--**//%".charAt(random.nextInt(14)));
            single(text, names, open);
        }
    }

    private void single(StringBuilder text, String names, int open) {
        int way = random.nextInt(8);
        if (way == 0 && open < 6) {
            text.append('(');
            write(text, names, random.nextInt(3), open + 1);
            text.append(')');
        } else if (way == 1 && open < 6) {
            text.append('!');
            single(text, names, open + 1);
        } else if (way < 5) {
            text.append(names.charAt(random.nextInt(names.length())));
        } else {
            text.append(random.nextInt(way == 5 ? 10000 : 12));
        }
    }

    private int churn() {
        int many = (int) model.call("count", row(0));
        return random.nextInt(20) == 0 ? wild(0, 5) : many == 0 ? 0 : random.nextInt(many);
    }

    private int wild(int least, int most) {
        int way = random.nextInt(60);
        return way == 0 ? least - 1 : way == 1 ? most + 1 : way == 2 ? any() : least + random.nextInt(most - least + 1);
    }

    private int any() {
        int way = random.nextInt(3);
        return way == 0 ? random.nextInt() : way == 1 ? random.nextInt(12) : EXTREMES[random.nextInt(EXTREMES.length)];
    }

    private static long[] row(long... a) {
        return a;
    }

    private long hillsAnswer(String name, long[] a) {
        made++;
        Method m = METHODS.get(name);
        Object[] given = new Object[a.length];
        for (int i = 0; i < a.length; i++) {
            if (m.getParameterTypes()[i] == long.class) {
                given[i] = a[i];
            } else {
                given[i] = (int) a[i];
            }
        }
        try {
            return ((Number) m.invoke(hills, given)).longValue();
        } catch (InvocationTargetException e) {
            throw new IllegalStateException(said + name, e);
        } catch (IllegalAccessException e) {
            throw new IllegalStateException(e);
        }
    }

    private void call(String name, long... a) {
        said.append(name).append(java.util.Arrays.toString(a)).append('\n');
        long want = model.call(name, a);
        compare(name, a, hillsAnswer(name, a), want);
        GOOD.merge(want < -1000000000 && want > -1000000006 ? name + " refused" : name, 1, Integer::sum);
    }

    private void compare(String name, long[] a, long got, long want) {
        if (got != want && wrong == 0) {
            wrong++;
            System.out.println(said + "run " + run + ": " + name + java.util.Arrays.toString(a)
                + " answered " + got + ", the model has " + want);
        }
    }

    /** All that can be read without a change, one number beyond too. */
    private void readAll() {
        for (int i = 0; i <= 10; i++) {
            read("count", i);
            for (int what = 0; what <= 5 && i <= 9; what++) {
                read("ofHill", i, what);
            }
            for (int churn = 0; churn <= 6; churn++) {
                read("ofChurn", churn, i);
            }
            read("trace", i);
        }
        for (int k = 0; k <= 6; k++) {
            read("told", k);
        }
        read("law", 0, 17, 5, 0);
        read("law", 1, 1, 30, 4);
    }

    private void read(String name, long... a) {
        compare(name, a, hillsAnswer(name, a), model.call(name, a));
    }
}
