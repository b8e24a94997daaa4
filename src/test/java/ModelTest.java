import java.util.Arrays;
import java.util.Random;

/** Long runs of calls, right and wrong ones, each answer compared to that of the Model (all promises). */
public final class ModelTest {
    private static final String[] NAMES = {"append", "clearText", "errorPosition", "load", "about", "order", "author", "at",
        "jump", "chain", "ring", "setDrum", "addOrder", "change", "move", "lay", "run", "turn", "undo", "waits", "time",
        "bestPlace", "leastBribe", "saves", "runScript", "simulate", "save", "restore"};
    private static final String[] OFTEN = {"change", "change", "move", "lay", "run", "run", "turn", "order", "addOrder",
        "addOrder", "undo", "runScript"};
    private static final int[] EDGES = {Integer.MIN_VALUE, Integer.MAX_VALUE, -2, -1, 0, 1, 2, 3, 4, 5, 6, 8, 9, 10, 15, 16,
        17, 39, 40, 41, 99, 100, 255, 256};

    public static void main(String[] args) {
        Random random = new Random(20261119);
        for (int run = 0; run < 120; run++) {
            oneRun(run, random);
        }
        Check.end("ModelTest");
    }

    private static void oneRun(int run, Random random) {
        ProgramDrum x = new ProgramDrum();
        Model model = new Model();
        int calls = 0;
        String program = program(random);
        if (random.nextBoolean()) {
            for (char c : program.toCharArray()) {
                calls++;
                both(run, calls, x, model, "append", new long[] {c});
            }
            both(run, ++calls, x, model, "errorPosition", new long[0]);
            both(run, ++calls, x, model, "load", new long[0]);
        }
        // in some runs layings and setDrum are rare, so that jumps and moves add up
        boolean calm = random.nextInt(3) == 0;
        while (calls++ < 512) {
            String name = random.nextInt(3) > 0 ? OFTEN[random.nextInt(OFTEN.length)] : NAMES[random.nextInt(NAMES.length)];
            boolean rare = name.equals("load") || name.equals("clearText") || name.equals("setDrum")
                    || name.equals("undo") || name.equals("restore");
            if (rare && random.nextInt(calm ? 40 : 4) > 0) {
                continue;
            }
            both(run, calls, x, model, name, arguments(name, random, x));
            if (random.nextInt(20) == 0) {
                compareView(run, calls, x, model);
            }
        }
        compareView(run, calls, x, model);
    }

    private static String program(Random random) {
        StringBuilder text = new StringBuilder(String.format("D%02d", 6 + random.nextInt(35)));
        int orders = random.nextInt(18);
        for (int i = 0; i < orders && text.length() < 152; i++) {
            text.append('o').append(random.nextInt(4)).append(1 + random.nextInt(9)).append(link(random)).append(
                    random.nextInt(3) > 0 ? "--" : link(random)).append(String.format("%02d", random.nextInt(100)));
        }
        if (random.nextInt(3) == 0) {
            text.setLength(random.nextInt(text.length() + 1));
        }
        if (random.nextInt(3) == 0 && text.length() > 0) {
            text.setCharAt(random.nextInt(text.length()), "0123456789-oDx ".charAt(random.nextInt(15)));
        }
        return text.toString();
    }

    private static String link(Random random) {
        return random.nextInt(4) == 0 ? "--" : String.format("%02d", random.nextInt(16));
    }

    private static long[] arguments(String name, Random random, ProgramDrum x) {
        int orders = Math.max(1, x.about(1));
        int o = random.nextInt(orders);
        long[] a;
        switch (name) {
            case "append": a = new long[] {"D120o-3".charAt(random.nextInt(7))}; break;
            case "about": a = new long[] {random.nextInt(10)}; break;
            case "order": a = new long[] {o, random.nextInt(9)}; break;
            case "author": a = new long[] {random.nextInt(4), random.nextInt(3)}; break;
            case "at": a = new long[] {random.nextInt(x.about(0))}; break;
            case "jump": a = new long[] {random.nextInt(x.about(8) + 2), random.nextInt(3)}; break;
            case "setDrum": a = new long[] {6 + random.nextInt(35)}; break;
            case "addOrder": a = new long[] {random.nextInt(4), 1 + random.nextInt(9), random.nextInt(17) - 1,
                random.nextInt(3) > 0 ? -1 : random.nextInt(17) - 1, random.nextInt(100)}; break;
            case "change": a = change(random, o, orders); break;
            case "move": a = new long[] {o, random.nextInt(x.about(0))}; break;
            case "turn": a = new long[] {1 + random.nextInt(99)}; break;
            case "bestPlace": a = new long[] {o, random.nextInt(orders)}; break;
            case "runScript": a = script(random, orders); break;
            case "simulate": a = new long[] {random.nextLong(), 1 + random.nextInt(50)}; break;
            case "save": case "restore": a = new long[] {random.nextInt(2)}; break;
            case "clearText": case "errorPosition": case "load": case "lay": case "undo": a = new long[0]; break;
            default: a = new long[] {o};
        }
        if (a.length > 0 && random.nextInt(12) == 0) {
            a[random.nextInt(a.length)] = EDGES[random.nextInt(EDGES.length)];
        }
        return a;
    }

    private static long[] change(Random random, int o, int orders) {
        int what = random.nextInt(5);
        int link = random.nextInt(8) == 0 ? random.nextInt(17) - 1 : random.nextInt(orders);
        int[] v = {random.nextInt(4), 1 + random.nextInt(9), link, random.nextInt(2) == 0 ? -1 : link, random.nextInt(100)};
        return new long[] {o, what, v[what]};
    }

    private static long[] script(Random random, int orders) {
        int n = 1 + random.nextInt(3);
        long script = 0;
        for (int i = 0; i < n; i++) {
            int kind = random.nextInt(10);
            int oo = random.nextInt(orders + (random.nextInt(10) == 0 ? 2 : 0));
            int xy = random.nextInt(random.nextBoolean() ? 100 : 20);
            if (random.nextInt(8) == 0) {
                xy = 99;
            }
            int command = 10000 * kind + 100 * oo + xy;
            if (random.nextInt(8) > 0) {
                command = kind == 1 ? 10000 + 100 * oo : kind == 2 ? 20000 : kind == 4 ? 40000 + xy
                        : kind == 9 ? 90000 + 1000 * random.nextInt(5) + random.nextInt(1000) : command;
            }
            script = script * 100000 + command;
        }
        return new long[] {random.nextInt(20) == 0 ? n - 1 : n, script};
    }

    private static void compareView(int run, int calls, ProgramDrum x, Model model) {
        for (int what = 0; what <= 9; what++) {
            both(run, calls, x, model, "about", new long[] {what});
        }
        for (int o = 0; o < x.about(1); o++) {
            for (int what = 0; what <= 8; what++) {
                both(run, calls, x, model, "order", new long[] {o, what});
            }
            for (String name : new String[] {"chain", "ring", "waits", "time", "leastBribe", "saves"}) {
                both(run, calls, x, model, name, new long[] {o});
            }
        }
        for (int a = 0; a < 12; a++) {
            both(run, calls, x, model, "author", new long[] {a / 3, a % 3});
        }
        for (int place = 0; place < x.about(0); place++) {
            both(run, calls, x, model, "at", new long[] {place});
        }
        for (int i = 0; i <= x.about(8); i++) {
            for (int what = 0; what < 3; what++) {
                both(run, calls, x, model, "jump", new long[] {i, what});
            }
        }
    }

    private static void both(int run, int calls, ProgramDrum x, Model model, String name, long[] a) {
        String due = Check.answer(() -> model.call(name, a));
        String got = Check.answer(() -> call(x, name, a));
        Check.is("run " + run + ", call " + calls + ": " + name + Arrays.toString(a), due, got);
    }

    private static int call(ProgramDrum x, String name, long[] a) {
        int a0 = a.length > 0 ? (int) a[0] : 0;
        int a1 = a.length > 1 ? (int) a[1] : 0;
        int a2 = a.length > 2 ? (int) a[2] : 0;
        switch (name) {
            case "append": return x.append(a0);
            case "clearText": return x.clearText();
            case "errorPosition": return x.errorPosition();
            case "load": return x.load();
            case "about": return x.about(a0);
            case "order": return x.order(a0, a1);
            case "author": return x.author(a0, a1);
            case "at": return x.at(a0);
            case "jump": return x.jump(a0, a1);
            case "chain": return x.chain(a0);
            case "ring": return x.ring(a0);
            case "setDrum": return x.setDrum(a0);
            case "addOrder": return x.addOrder(a0, a1, a2, (int) a[3], (int) a[4]);
            case "change": return x.change(a0, a1, a2);
            case "move": return x.move(a0, a1);
            case "lay": return x.lay();
            case "run": return x.run(a0);
            case "turn": return x.turn(a0);
            case "undo": return x.undo();
            case "waits": return x.waits(a0);
            case "time": return x.time(a0);
            case "bestPlace": return x.bestPlace(a0, a1);
            case "leastBribe": return x.leastBribe(a0);
            case "saves": return x.saves(a0);
            case "runScript": return x.runScript(a0, a[1]);
            case "simulate": return x.simulate(a[0], a1);
            case "save": return x.save(a0);
            case "restore": return x.restore(a0);
            default: throw new AssertionError(name);
        }
    }
}
