import java.util.Arrays;
import java.util.Random;

/** Long runs of calls, right and wrong ones, each answer compared to that of the Model (all promises). */
public final class ModelTest {
    private static final String[] NAMES = {"append", "clearText", "errorPosition", "load", "about", "order", "author", "at",
        "jump", "chain", "ring", "setDrum", "addOrder", "change", "move", "lay", "run", "turn", "undo", "waits", "time",
        "bestPlace", "leastBribe", "saves", "runScript", "simulate", "save", "restore"};
    private static final String[] OFTEN = {"change", "change", "move", "lay", "run", "run", "turn", "order", "addOrder",
        "addOrder", "undo", "runScript"};
    private static final int[] EDGES = {Integer.MIN_VALUE, Integer.MAX_VALUE, -2, -1, 0, 1, 2, 3, 4, 5, 6, 8, 9, 10, 15, 16,
        17, 39, 40, 41, 99, 100, 255, 256};

    private static final int MOST_CALLS = 512;

    public static void main(String[] args) {
        Random random = new Random(20261119);
        for (int run = 0; run < 1500; run++) {
            oneRun(run, random);
        }
        Check.end("ModelTest");
    }

    private static void oneRun(int run, Random random) {
        Pair pair = new Pair(run);
        String program = program(random);
        if (random.nextBoolean()) {
            for (char c : program.toCharArray()) {
                pair.call("append", c);
            }
            pair.call("errorPosition");
            pair.call("load");
        }
        // in some runs layings and setDrum are rare, so that jumps and moves add up
        boolean calm = random.nextInt(3) == 0;
        int lookBehind = pair.calls + random.nextInt(MOST_CALLS - pair.calls);
        while (pair.calls < MOST_CALLS) {
            String name = random.nextInt(3) > 0 ? OFTEN[random.nextInt(OFTEN.length)] : NAMES[random.nextInt(NAMES.length)];
            boolean rare = name.equals("load") || name.equals("clearText") || name.equals("setDrum")
                    || name.equals("undo") || name.equals("restore");
            if (rare && random.nextInt(calm ? 40 : 4) > 0) {
                continue;
            }
            pair.call(name, arguments(name, random, pair.model));
            if (pair.calls > lookBehind) {
                lookAtAll(pair);
                lookBehind = MOST_CALLS;
            }
        }
    }

    /** A new object and a new Model that get the same calls, 512 at most. */
    private static final class Pair {
        private final int run;
        private final ProgramDrum drum = new ProgramDrum();
        private final Model model = new Model();
        private int calls = 0;

        Pair(int run) {
            this.run = run;
        }

        void call(String name, long... a) {
            if (calls < MOST_CALLS) {
                calls++;
                String due = Check.answer(() -> model.call(name, a));
                String got = Check.answer(() -> Calls.call(drum, name, a));
                Check.is("run " + run + ", call " + calls + ": " + name + Arrays.toString(a), due, got);
            }
        }
    }

    private static String program(Random random) {
        StringBuilder text = new StringBuilder(String.format("D%02d", 6 + random.nextInt(35)));
        int orders = random.nextInt(18);
        for (int i = 0; i < orders && text.length() < 152; i++) {
            text.append('o').append(random.nextInt(4)).append(1 + random.nextInt(9)).append(link(random)).append(
                    random.nextInt(3) > 0 ? "--" : link(random)).append(String.format("%02d", random.nextInt(100)));
        }
        if (random.nextInt(3) == 0) {
            text.setLength(random.nextInt(text.length() + 1));
        }
        if (random.nextInt(3) == 0 && text.length() > 0) {
            text.setCharAt(random.nextInt(text.length()), "0123456789-oDx ".charAt(random.nextInt(15)));
        }
        return text.toString();
    }

    private static String link(Random random) {
        return random.nextInt(4) == 0 ? "--" : String.format("%02d", random.nextInt(16));
    }

    private static long[] arguments(String name, Random random, Model model) {
        int orders = Math.max(1, number(model, 1));
        int o = random.nextInt(orders);
        long[] a;
        switch (name) {
            case "append": a = new long[] {"D120o-3".charAt(random.nextInt(7))}; break;
            case "about": a = new long[] {random.nextInt(10)}; break;
            case "order": a = new long[] {o, random.nextInt(9)}; break;
            case "author": a = new long[] {random.nextInt(4), random.nextInt(3)}; break;
            case "at": a = new long[] {random.nextInt(number(model, 0))}; break;
            case "jump": a = new long[] {random.nextInt(number(model, 8) + 2), random.nextInt(3)}; break;
            case "setDrum": a = new long[] {6 + random.nextInt(35)}; break;
            case "addOrder": a = new long[] {random.nextInt(4), 1 + random.nextInt(9), random.nextInt(17) - 1,
                random.nextInt(3) > 0 ? -1 : random.nextInt(17) - 1, random.nextInt(100)}; break;
            case "change": a = change(random, o, orders); break;
            case "move": a = new long[] {o, random.nextInt(number(model, 0))}; break;
            case "turn": a = new long[] {1 + random.nextInt(99)}; break;
            case "bestPlace": a = new long[] {o, random.nextInt(orders)}; break;
            case "runScript": a = script(random, orders); break;
            case "simulate": a = new long[] {random.nextLong(), 1 + random.nextInt(50)}; break;
            case "save": case "restore": a = new long[] {random.nextInt(2)}; break;
            case "clearText": case "errorPosition": case "load": case "lay": case "undo": a = new long[0]; break;
            default: a = new long[] {o};
        }
        if (a.length > 0 && random.nextInt(12) == 0) {
            a[random.nextInt(a.length)] = EDGES[random.nextInt(EDGES.length)];
        }
        return a;
    }

    private static long[] change(Random random, int o, int orders) {
        int what = random.nextInt(5);
        int link = random.nextInt(8) == 0 ? random.nextInt(17) - 1 : random.nextInt(orders);
        int[] v = {random.nextInt(4), 1 + random.nextInt(9), link, random.nextInt(2) == 0 ? -1 : link, random.nextInt(100)};
        return new long[] {o, what, v[what]};
    }

    private static long[] script(Random random, int orders) {
        int n = 1 + random.nextInt(3);
        long script = 0;
        for (int i = 0; i < n; i++) {
            int kind = random.nextInt(10);
            int oo = random.nextInt(orders + (random.nextInt(10) == 0 ? 2 : 0));
            int xy = random.nextInt(random.nextBoolean() ? 100 : 20);
            if (random.nextInt(8) == 0) {
                xy = 99;
            }
            int command = 10000 * kind + 100 * oo + xy;
            if (random.nextInt(8) > 0) {
                command = kind == 1 ? 10000 + 100 * oo : kind == 2 ? 20000 : kind == 4 ? 40000 + xy
                        : kind == 9 ? 90000 + 1000 * random.nextInt(5) + random.nextInt(1000) : command;
            }
            script = script * 100000 + command;
        }
        return new long[] {random.nextInt(20) == 0 ? n - 1 : n, script};
    }

    private static void lookAtAll(Pair pair) {
        int orders = number(pair.model, 1);
        for (int what = 0; what <= 9; what++) {
            pair.call("about", what);
        }
        for (int a = 0; a < 12; a++) {
            pair.call("author", a / 3, a % 3);
        }
        for (int o = 0; o < orders; o++) {
            for (int what = 0; what <= 8; what++) {
                pair.call("order", o, what);
            }
            for (String name : new String[] {"chain", "ring", "waits", "time", "leastBribe", "saves"}) {
                pair.call(name, o);
            }
        }
        for (int place = 0; place < number(pair.model, 0); place++) {
            pair.call("at", place);
        }
        for (int i = 0; i <= number(pair.model, 8); i++) {
            for (int what = 0; what < 3; what++) {
                pair.call("jump", i, what);
            }
        }
    }

    private static int number(Model model, long what) {
        return model.call("about", new long[] {what});
    }
}
