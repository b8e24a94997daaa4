import java.util.ArrayList;
import java.util.Arrays;
import java.util.Comparator;
import java.util.LinkedHashMap;
import java.util.List;
import java.util.Map;
import java.util.regex.Matcher;
import java.util.regex.Pattern;

/**
 * The document told a second time, slowly and with the Java library: time goes by tick by tick, the
 * program is a regular expression, states are copied whole. ModelTest compares ProgramDrum to it.
 */
final class Model {
    private static final Pattern PROGRAM = Pattern.compile(
            "D(0[6-9]|[123][0-9]|40)(o[0-3][1-9](0[0-9]|1[0-5]|--)(0[0-9]|1[0-5]|--)[0-9][0-9]){0,16}");

    private static final class Order implements Cloneable {
        int author;
        int work;
        int next;
        int expects;
        int bribe;
        Integer place;
        Integer delay;
        Integer open;
        Integer wait;

        Order copy() {
            try {
                return (Order) clone();
            } catch (CloneNotSupportedException e) {
                throw new AssertionError(e);
            }
        }
    }

    private static final class World {
        int places = 12;
        int tick = 0;
        Integer end;
        int[] paid = new int[4];
        int[] back = new int[4];
        List<Order> orders = new ArrayList<>();
        Map<List<Integer>, Integer> jumps = new LinkedHashMap<>();

        World copy() {
            World w = new World();
            w.places = places;
            w.tick = tick;
            w.end = end;
            w.paid = paid.clone();
            w.back = back.clone();
            for (Order o : orders) {
                w.orders.add(o.copy());
            }
            w.jumps.putAll(jumps);
            return w;
        }
    }

    private StringBuilder text = new StringBuilder();
    private World w = new World();
    private List<World> past = new ArrayList<>();
    private World[] slots = new World[2];

    private static int or(Integer v) {
        return v == null ? -1 : v;
    }

    private static void index(boolean ok) {
        if (!ok) {
            throw new IndexOutOfBoundsException();
        }
    }

    private static void argument(boolean ok) {
        if (!ok) {
            throw new IllegalArgumentException();
        }
    }

    private static void state(boolean ok) {
        if (!ok) {
            throw new IllegalStateException();
        }
    }

    private static boolean in(long v, int low, int high) {
        return low <= v && v <= high;
    }

    private Order known(long o) {
        index(in(o, 0, w.orders.size() - 1));
        return w.orders.get((int) o);
    }

    private void act() {
        past.add(w.copy());
        if (past.size() > 14) {
            past.remove(0);
        }
    }

    int call(String name, long[] a) {
        switch (name) {
            case "append":
                argument(in(a[0], 0, 255));
                state(text.length() < 160);
                return text.append((char) a[0]).length();
            case "clearText": {
                int length = text.length();
                text = new StringBuilder();
                return length;
            }
            case "errorPosition":
                return errorPosition();
            case "load":
                return load();
            case "about":
                return about((int) a[0]);
            case "order":
                return order(known(a[0]), (int) a[1]);
            case "author":
                return author((int) a[0], (int) a[1]);
            case "at":
                index(in(a[0], 0, w.places - 1));
                return standing(w, (int) a[0]);
            case "jump": {
                argument(a[0] >= 0 && in(a[1], 0, 2));
                if (a[0] >= w.jumps.size()) {
                    return -1;
                }
                Map.Entry<List<Integer>, Integer> jump = new ArrayList<>(w.jumps.entrySet()).get((int) a[0]);
                return a[1] == 2 ? jump.getValue() : jump.getKey().get((int) a[1]);
            }
            case "chain":
                known(a[0]);
                return chain((int) a[0]).size();
            case "ring":
                known(a[0]);
                return ring(chain((int) a[0]));
            default:
                return name.matches("setDrum|addOrder|change|move|lay|run|turn|undo") ? action(name, a) : wouldBe(name, a);
        }
    }

    private int action(String name, long[] a) {
        switch (name) {
            case "setDrum": {
                argument(in(a[0], 6, 40));
                act();
                int old = w.places;
                clear(w);
                w.places = (int) a[0];
                return old;
            }
            case "addOrder":
                argument(fits(0, a[0]) && fits(1, a[1]) && fits(2, a[2]) && fits(3, a[3]) && fits(4, a[4]));
                state(w.orders.size() < 16);
                act();
                return add(a);
            case "change":
                known(a[0]);
                argument(fits(a[1], a[2]));
                act();
                return change(w, (int) a[0], (int) a[1], (int) a[2]);
            case "move":
                known(a[0]);
                index(in(a[1], 0, w.places - 1));
                state(standing(w, (int) a[1]) == -1 || standing(w, (int) a[1]) == a[0]);
                act();
                return move(w, (int) a[0], (int) a[1]);
            case "lay":
                act();
                return lay(w);
            case "run":
                known(a[0]);
                act();
                return run(w, (int) a[0]);
            case "turn":
                argument(in(a[0], 1, 99));
                act();
                w.tick += a[0];
                return w.tick % w.places;
            default:
                state(!past.isEmpty());
                w = past.remove(past.size() - 1);
                return past.size();
        }
    }

    private int wouldBe(String name, long[] a) {
        switch (name) {
            case "waits":
                return wait(w, known(a[0]));
            case "time":
                known(a[0]);
                return time(w, (int) a[0]);
            case "bestPlace":
                return bestPlace(known(a[0]), (int) a[0], (int) a[1]);
            case "leastBribe":
                known(a[0]);
                for (int bribe = 0; bribe <= 99; bribe++) {
                    World c = w.copy();
                    c.orders.get((int) a[0]).bribe = bribe;
                    lay(c);
                    if (or(c.orders.get((int) a[0]).delay) == 0) {
                        return bribe;
                    }
                }
                return -1;
            case "saves": {
                known(a[0]);
                World c = w.copy();
                lay(c);
                return time(w, (int) a[0]) - time(c, (int) a[0]);
            }
            case "runScript":
                argument(in(a[0], 1, 3) && a[1] >= 0 && ("" + a[1]).length() <= 5 * a[0]);
                return script((int) a[0], a[1]);
            case "simulate":
                argument(in(a[1], 1, 50));
                return simulate(a[0], (int) a[1]);
            case "save":
                index(in(a[0], 0, 1));
                slots[(int) a[0]] = w.copy();
                return w.orders.size();
            case "restore":
                index(in(a[0], 0, 1));
                state(slots[(int) a[0]] != null);
                w = slots[(int) a[0]].copy();
                past.clear();
                return w.orders.size();
            default:
                throw new AssertionError(name);
        }
    }

    private int errorPosition() {
        for (int i = 0; i < text.length(); i++) {
            Matcher m = PROGRAM.matcher(text.substring(0, i + 1));
            if (!m.matches() && !m.hitEnd()) {
                return i;
            }
        }
        return PROGRAM.matcher(text).matches() ? -1 : text.length();
    }

    private int load() {
        state(errorPosition() == -1);
        w = new World();
        past.clear();
        slots = new World[2];
        w.places = Integer.parseInt(text.substring(1, 3));
        for (String o : text.substring(3).split("o")) {
            if (!o.isEmpty()) {
                add(new long[] {o.charAt(0) - '0', o.charAt(1) - '0', link(o.substring(2, 4)), link(o.substring(4, 6)),
                    Integer.parseInt(o.substring(6))});
            }
        }
        return w.orders.size();
    }

    private static int link(String s) {
        return s.equals("--") ? -1 : Integer.parseInt(s);
    }

    private int about(int what) {
        argument(in(what, 0, 9));
        return new int[] {w.places, w.orders.size(), w.tick, w.tick % w.places,
            (int) w.orders.stream().filter(o -> o.place != null).count(), Arrays.stream(w.paid).sum(),
            Arrays.stream(w.back).sum(), w.orders.stream().mapToInt(o -> Math.max(0, or(o.open))).sum(), w.jumps.size(),
            or(w.end)}[what];
    }

    private int order(Order o, int what) {
        argument(in(what, 0, 8));
        return new int[] {o.author, o.work, o.next, o.expects, o.bribe, or(o.place), or(o.delay), Math.max(0, or(o.open)),
            or(o.wait)}[what];
    }

    private int author(int a, int what) {
        index(in(a, 0, 3));
        argument(in(what, 0, 2));
        int orders = (int) w.orders.stream().filter(o -> o.author == a).count();
        return what == 0 ? orders : what == 1 ? w.paid[a] : w.back[a];
    }

    private static int standing(World w, int place) {
        for (int o = 0; o < w.orders.size(); o++) {
            if (or(w.orders.get(o).place) == place) {
                return o;
            }
        }
        return -1;
    }

    /** The different orders of the chain, and behind them, as one more element of ring(), where it leads. */
    private List<Integer> chain(int first) {
        List<Integer> met = new ArrayList<>();
        for (int o = first; o >= 0 && o < w.orders.size() && !met.contains(o); o = w.orders.get(o).next) {
            met.add(o);
        }
        return met;
    }

    private int ring(List<Integer> chain) {
        int back = chain.indexOf(w.orders.get(chain.get(chain.size() - 1)).next);
        return back < 0 ? 0 : chain.size() - back;
    }

    private static boolean fits(long what, long v) {
        int[] low = {0, 1, -1, -1, 0};
        int[] high = {3, 9, 15, 15, 99};
        return in(what, 0, 4) && in(v, low[(int) what], high[(int) what]);
    }

    private int add(long[] a) {
        Order o = new Order();
        o.author = (int) a[0];
        o.work = (int) a[1];
        o.next = (int) a[2];
        o.expects = (int) a[3];
        o.bribe = (int) a[4];
        w.orders.add(o);
        return w.orders.size() - 1;
    }

    private static int change(World w, int number, int what, int v) {
        Order o = w.orders.get(number);
        int old = new int[] {o.author, o.work, o.next, o.expects, o.bribe}[what];
        switch (what) {
            case 0: o.author = v; break;
            case 1: o.work = v; break;
            case 2: o.next = v; break;
            case 3: o.expects = v; break;
            default: o.bribe = v;
        }
        return old;
    }

    private static int refund(World w, Order o) {
        int open = o.open == null ? 0 : o.open;
        w.back[o.author] += open;
        o.open = null;
        return open;
    }

    private static int move(World w, int number, int place) {
        Order o = w.orders.get(number);
        o.place = place;
        o.delay = null;
        return refund(w, o);
    }

    private static void clear(World w) {
        for (Order o : w.orders) {
            refund(w, o);
            o.place = null;
            o.delay = null;
        }
    }

    private static int lay(World w) {
        clear(w);
        List<Integer> turn = new ArrayList<>();
        for (int o = 0; o < w.orders.size(); o++) {
            turn.add(o);
        }
        turn.sort(Comparator.comparing((Integer o) -> -w.orders.get(o).bribe).thenComparing(o -> o));
        int sum = 0;
        for (int number : turn) {
            Order o = w.orders.get(number);
            List<Integer> free = new ArrayList<>();
            int wanted = wanted(w, number);
            for (int i = 0; i < w.places; i++) {
                int place = (wanted + i) % w.places;
                free.add(standing(w, place) == -1 ? i : 99);
            }
            int delay = free.stream().min(Comparator.naturalOrder()).get();
            if (delay < 99) {
                o.place = (wanted + delay) % w.places;
                o.delay = delay;
                o.open = o.bribe;
                w.paid[o.author] += o.bribe;
                sum += delay;
            }
        }
        return sum;
    }

    private static int wanted(World w, int number) {
        Order o = w.orders.get(number);
        for (Order before : w.orders) {
            if (before.place != null && before.next == number) {
                return (before.place + 1 + before.work) % w.places;
            }
        }
        if (o.next >= 0 && o.next < w.orders.size() && w.orders.get(o.next).place != null) {
            return (w.orders.get(o.next).place - 1 - o.work + 2 * w.places) % w.places;
        }
        return 0;
    }

    private static int run(World w, int first) {
        int reads = 0;
        int from = -1;
        int number = first;
        while (true) {
            if (number >= w.orders.size() || w.orders.get(number).place == null) {
                return w.end = 3;
            }
            Order o = w.orders.get(number);
            if (from >= 0 && o.expects >= 0 && o.expects != from) {
                return w.end = 1;
            }
            if (++reads == 100) {
                return w.end = 2;
            }
            o.wait = 0;
            while (w.tick % w.places != o.place) {
                w.tick++;
                o.wait++;
            }
            if (from >= 0 && o.wait > 0) {
                refund(w, o);
            } else if (from >= 0) {
                o.open = null;
            }
            w.tick += 1 + o.work;
            if (o.next < 0) {
                return w.end = 0;
            }
            w.jumps.merge(List.of(number, o.next), 1, Integer::sum);
            from = number;
            number = o.next;
        }
    }

    private static int wait(World w, Order o) {
        if (o.place == null) {
            return -1;
        }
        int wait = 0;
        while ((w.tick + wait) % w.places != o.place) {
            wait++;
        }
        return wait;
    }

    private static int time(World w, int o) {
        World c = w.copy();
        run(c, o);
        return c.tick - w.tick;
    }

    private int bestPlace(Order o, int number, int start) {
        known(start);
        int best = -1;
        int least = Integer.MAX_VALUE;
        for (int place = 0; place < w.places; place++) {
            int there = standing(w, place);
            if (there >= 0 && there != number) {
                continue;
            }
            World c = w.copy();
            c.orders.get(number).place = place;
            if (time(c, start) < least) {
                least = time(c, start);
                best = place;
            }
        }
        return best;
    }

    private int script(int n, long script) {
        String digits = String.format("%0" + 5 * n + "d", script);
        World c = w.copy();
        for (int i = 0; i < n; i++) {
            if (!command(c, digits.substring(5 * i, 5 * i + 5))) {
                return i;
            }
        }
        return -1;
    }

    private static boolean command(World c, String d) {
        int oo = Integer.parseInt(d.substring(1, 3));
        int xy = Integer.parseInt(d.substring(3));
        boolean known = oo < c.orders.size();
        if (d.matches("1..00") && known) {
            run(c, oo);
            return true;
        }
        if (d.equals("20000")) {
            lay(c);
            return true;
        }
        if (d.matches("3....") && known && xy < c.places && (standing(c, xy) == -1 || standing(c, xy) == oo)) {
            move(c, oo, xy);
            return true;
        }
        if (d.matches("400..") && xy > 0) {
            c.tick += xy;
            return true;
        }
        if (d.matches("5....") && known) {
            c.orders.get(oo).bribe = xy;
            return true;
        }
        if (d.matches("6....") && known && (xy < 16 || xy == 99)) {
            c.orders.get(oo).next = xy == 99 ? -1 : xy;
            return true;
        }
        if (d.matches("7....") && known) {
            int wait = wait(c, c.orders.get(oo));
            return wait >= 0 && wait <= xy;
        }
        if (d.matches("8....") && known) {
            World asked = c.copy();
            return run(asked, oo) == 0 && asked.tick - c.tick <= 10 * xy;
        }
        return d.matches("9[0-3]...") && c.back[d.charAt(1) - '0'] <= Integer.parseInt(d.substring(2));
    }

    private int simulate(long seed, int m) {
        World c = w.copy();
        long x = seed;
        int told = 0;
        for (int i = 0; i < m; i++) {
            x = x * 6364136223846793005L + 1442695040888963407L;
            int r = (int) (x >>> 33);
            int n = c.orders.size();
            if (n > 0) {
                c.orders.get(r / 16 % n).bribe = r / 1024 % 100;
                if (r % 4 == 0) {
                    lay(c);
                }
                told += run(c, r / 256 % n) == 0 ? 1 : 0;
            }
        }
        return 1000 * told + Math.min(999, Arrays.stream(c.back).sum() - Arrays.stream(w.back).sum());
    }
}
