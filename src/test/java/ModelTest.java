import java.util.ArrayList;
import java.util.List;
import java.util.Map;
import java.util.TreeMap;

/** Long runs of calls, each answer beside that of a plain model that holds all in lists and maps. */
public final class ModelTest {
    private static final int RUNS = 3000;
    private static final int CALLS = 512;

    private static final class Drawer {
        int amount;
        int seal;
    }

    private static final class Worker {
        List<int[]> program = new ArrayList<>();
        int place;
        boolean done;
        int lost;
        Map<Integer, int[]> remembered = new TreeMap<>();
        Map<Integer, Integer> own = new TreeMap<>();

        Worker copy() {
            Worker w = new Worker();
            w.program.addAll(program);
            w.place = place;
            w.done = done;
            w.lost = lost;
            w.remembered.putAll(remembered);
            w.own.putAll(own);
            return w;
        }

        void anew() {
            place = 0;
            done = false;
            remembered.clear();
            own.clear();
        }

        boolean working() {
            return !done && !program.isEmpty();
        }
    }

    private static final class Model {
        List<Drawer> till = new ArrayList<>();
        List<Worker> workers = new ArrayList<>();
        List<int[]> closings = new ArrayList<>();

        Model(int drawers) {
            for (int d = 0; d < drawers; d++) {
                till.add(new Drawer());
            }
        }

        Model copy() {
            Model m = new Model(till.size());
            for (int d = 0; d < till.size(); d++) {
                m.till.get(d).amount = till.get(d).amount;
                m.till.get(d).seal = till.get(d).seal;
            }
            for (Worker w : workers) {
                m.workers.add(w.copy());
            }
            m.closings.addAll(closings);
            return m;
        }

        int total() {
            return till.stream().mapToInt(d -> d.amount).sum();
        }

        void closed(int who, Map<Integer, Integer> written) {
            int number = closings.size() + 1;
            written.forEach((d, amount) -> {
                till.get(d).amount = amount;
                till.get(d).seal = number;
            });
            closings.add(new int[] {who, written.size(), total()});
        }

        int read(Worker w, int d) {
            if (w.own.containsKey(d)) {
                return w.own.get(d);
            }
            w.remembered.computeIfAbsent(d, k -> new int[] {till.get(k).amount, till.get(k).seal});
            return w.remembered.get(d)[0];
        }

        void act(Worker w, int[] s) {
            if (s[0] == 0) {
                read(w, s[1]);
            } else if (s[0] == 1) {
                w.own.put(s[1], s[3]);
            } else if (s[0] == 2) {
                w.own.put(s[1], Math.max(0, Math.min(9999, read(w, s[1]) + s[3])));
            } else if (read(w, s[1]) >= s[3]) {
                int from = read(w, s[1]);
                int to = read(w, s[2]);
                w.own.put(s[1], from - s[3]);
                w.own.put(s[2], Math.min(9999, to + s[3]));
            }
        }

        boolean stale(Worker w) {
            return w.remembered.entrySet().stream().anyMatch(r -> till.get(r.getKey()).seal != r.getValue()[1]);
        }

        int move(int c) {
            Worker w = workers.get(c);
            if (w.place < w.program.size()) {
                act(w, w.program.get(w.place++));
                return 0;
            }
            if (stale(w)) {
                w.lost++;
                w.anew();
                return 2;
            }
            closed(c, w.own);
            w.done = true;
            return 1;
        }

        int rounds(int howMany) {
            int closed = 0;
            for (int r = 0; r < howMany; r++) {
                for (int c = 0; c < workers.size(); c++) {
                    if (workers.get(c).working() && move(c) == 1) {
                        closed++;
                    }
                }
            }
            return closed;
        }

        int counted(int what) {
            switch (what) {
                case 0: return till.size();
                case 1: return workers.size();
                case 2: return (int) workers.stream().filter(w -> w.done).count();
                case 3: return closings.size();
                case 4: return workers.stream().mapToInt(w -> w.lost).sum();
                case 5: return total();
                default: return (int) workers.stream().filter(w -> !w.done && stale(w)).count();
            }
        }

        int drawerTold(int d, int what) {
            switch (what) {
                case 0: return till.get(d).amount;
                case 1: return till.get(d).seal;
                case 2: return (int) workers.stream().filter(w -> !w.done && w.remembered.containsKey(d)).count();
                default: return (int) workers.stream().filter(w -> !w.done && w.own.containsKey(d)).count();
            }
        }

        int workerTold(int c, int what) {
            Worker w = workers.get(c);
            return new int[] {w.program.size(), w.place, w.done ? 1 : 0, w.lost, w.remembered.size(), w.own.size(),
                !w.done && stale(w) ? 1 : 0}[what];
        }

        int slipTold(int c, int d, int what) {
            Worker w = workers.get(c);
            if (what == 2) {
                return w.own.getOrDefault(d, -1);
            }
            return w.remembered.getOrDefault(d, new int[] {-1, -1})[what];
        }

        int closingTold(int back, int what) {
            return closings.get(closings.size() - 1 - back)[what];
        }

        boolean clashing(int a, int b) {
            Worker first = workers.get(a);
            Worker second = workers.get(b);
            return a != b && !first.done && !second.done
                && first.own.keySet().stream().anyMatch(second.remembered::containsKey);
        }

        int aloneAmount(int c, int d) {
            Model m = copy();
            Worker w = m.workers.get(c);
            w.anew();
            for (int[] s : w.program) {
                m.act(w, s);
            }
            return w.own.getOrDefault(d, till.get(d).amount);
        }

        int untilAll() {
            Model m = copy();
            for (int r = 0; r <= 200; r++) {
                if (m.workers.stream().noneMatch(Worker::working)) {
                    return r;
                }
                m.rounds(1);
            }
            return -1;
        }

        int advised() {
            List<int[]> those = new ArrayList<>();
            for (int c = 0; c < workers.size(); c++) {
                if (workers.get(c).working()) {
                    int clashes = 0;
                    for (int b = 0; b < workers.size(); b++) {
                        clashes += clashing(c, b) ? 1 : 0;
                    }
                    those.add(new int[] {clashes, -workers.get(c).place, c});
                }
            }
            those.sort((p, q) -> p[0] != q[0] ? p[0] - q[0] : p[1] != q[1] ? p[1] - q[1] : p[2] - q[2]);
            return those.isEmpty() ? -1 : those.get(0)[2];
        }

        long digested() {
            List<Integer> numbers = new ArrayList<>();
            for (int what = 0; what < 7; what++) {
                numbers.add(counted(what));
            }
            for (int d = 0; d < till.size(); d++) {
                for (int what = 0; what < 4; what++) {
                    numbers.add(drawerTold(d, what));
                }
            }
            for (int c = 0; c < workers.size(); c++) {
                for (int what = 0; what < 7; what++) {
                    numbers.add(workerTold(c, what));
                }
                for (int d = 0; d < till.size(); d++) {
                    for (int what = 0; what < 3; what++) {
                        numbers.add(slipTold(c, d, what));
                    }
                }
            }
            for (int back = 0; back < 10 && back < closings.size(); back++) {
                for (int what = 0; what < 3; what++) {
                    numbers.add(closingTold(back, what));
                }
            }
            long sum = 1811;
            for (int x : numbers) {
                sum = sum * 31 + x;
            }
            return sum;
        }
    }

    private static final String INDEX = "IndexOutOfBoundsException";
    private static final String ARGUMENT = "IllegalArgumentException";
    private static final String STATE = "IllegalStateException";

    private long seed;
    private Model model = new Model(6);
    private final TillOptimists x = new TillOptimists();
    private final boolean wild;

    private ModelTest(int run) {
        seed = run * 7919L + 17;
        // Some runs ask wrongly often, others hardly, so that long programs come about as well.
        wild = run % 3 == 0;
    }

    private int below(int bound) {
        seed = seed * 6364136223846793005L + 1442695040888963407L;
        return (int) ((seed >>> 33) % bound);
    }

    /** A number of least to most, or, now and then, one outside. */
    private int near(int least, int most) {
        int odd = below(wild ? 12 : 150);
        if (odd == 0) {
            int[] outside = {least - 1, most + 1, Integer.MIN_VALUE, Integer.MAX_VALUE};
            return outside[below(4)];
        }
        return most < least ? least : least + below(most - least + 1);
    }

    private int anyClerk() {
        return near(0, model.workers.size() - 1);
    }

    private int anyDrawer() {
        // Few drawers are meant most of the time, so that clerks get into each other's way.
        return below(3) == 0 ? near(0, model.till.size() - 1) : near(0, Math.min(1, model.till.size() - 1));
    }

    private boolean noClerk(int c) {
        return c < 0 || c >= model.workers.size();
    }

    private boolean noDrawer(int d) {
        return d < 0 || d >= model.till.size();
    }

    private static boolean out(int n, int least, int most) {
        return n < least || n > most;
    }

    private interface Answer {
        Object get();
    }

    private static Object answer(Answer call) {
        try {
            return call.get();
        } catch (RuntimeException e) {
            return e.getClass().getSimpleName();
        }
    }

    private String text = "";

    private boolean same(String call, Answer got, Object want) {
        text = call;
        Object answered = answer(got);
        if (!answered.equals(want)) {
            System.out.println(call + " answered " + answered + ", due is " + want);
            return false;
        }
        return true;
    }

    private boolean tillCall() {
        int n = below(8) == 0 ? near(1, 8) : near(9, 12);
        Object want = ARGUMENT;
        if (!out(n, 1, 8)) {
            want = model.till.size();
            model = new Model(n);
        }
        return same("till(" + n + ")", () -> x.till(n), want);
    }

    private boolean payCall() {
        int d = anyDrawer();
        int amount = below(3) == 0 ? near(0, 9999) : near(0, 50);
        Object want;
        if (noDrawer(d)) {
            want = INDEX;
        } else if (out(amount, 0, 9999)) {
            want = ARGUMENT;
        } else {
            want = model.till.get(d).amount;
            model.closed(-1, Map.of(d, amount));
        }
        return same("pay(" + d + ", " + amount + ")", () -> x.pay(d, amount), want);
    }

    private boolean clerkCall() {
        Object want = STATE;
        if (model.workers.size() < 6) {
            want = model.workers.size();
            model.workers.add(new Worker());
        }
        return same("clerk()", () -> x.clerk(), want);
    }

    private boolean sayCall() {
        int c = anyClerk();
        int kind = near(0, 3);
        int d = anyDrawer();
        int e = anyDrawer();
        int b = below(3) == 0 ? near(-999, 999) : near(0, 30);
        Object want;
        if (noClerk(c) || out(kind, 0, 3) || noDrawer(d) || noDrawer(e)) {
            want = INDEX;
        } else if (out(b, -999, 999) || (kind == 1 && b < 0) || (kind == 3 && (b < 1 || d == e))) {
            want = ARGUMENT;
        } else {
            Worker w = model.workers.get(c);
            if (w.done || w.place != 0 || w.program.size() == 8) {
                want = STATE;
            } else {
                w.program.add(new int[] {kind, d, e, b});
                want = w.program.size();
            }
        }
        return same("say(" + c + ", " + kind + ", " + d + ", " + e + ", " + b + ")", () -> x.say(c, kind, d, e, b), want);
    }

    private boolean turnCall() {
        int c = anyClerk();
        Object want;
        if (noClerk(c)) {
            want = INDEX;
        } else {
            want = model.workers.get(c).working() ? (Object) model.move(c) : STATE;
        }
        return same("turn(" + c + ")", () -> x.turn(c), want);
    }

    private boolean dropCall() {
        int c = anyClerk();
        Object want = INDEX;
        if (!noClerk(c)) {
            Worker w = model.workers.get(c);
            want = w.done ? w.program.size() : w.place;
            w.anew();
        }
        return same("drop(" + c + ")", () -> x.drop(c), want);
    }

    private boolean passCall() {
        int n = below(6) == 0 ? near(1, 50) : near(1, 3);
        Object want = out(n, 1, 50) ? ARGUMENT : (Object) model.rounds(n);
        return same("pass(" + n + ")", () -> x.pass(n), want);
    }

    private boolean askOne(int which) {
        int c = anyClerk();
        int d = anyDrawer();
        int o = anyClerk();
        switch (which) {
            case 0: {
                int w = near(0, 3);
                return same("drawer(" + d + ", " + w + ")", () -> x.drawer(d, w),
                    noDrawer(d) || out(w, 0, 3) ? INDEX : (Object) model.drawerTold(d, w));
            }
            case 1: {
                int w = near(0, 6);
                return same("told(" + c + ", " + w + ")", () -> x.told(c, w),
                    noClerk(c) || out(w, 0, 6) ? INDEX : (Object) model.workerTold(c, w));
            }
            case 2: {
                int w = near(0, 2);
                return same("slip(" + c + ", " + d + ", " + w + ")", () -> x.slip(c, d, w),
                    noClerk(c) || noDrawer(d) || out(w, 0, 2) ? INDEX : (Object) model.slipTold(c, d, w));
            }
            case 3: {
                int w = near(0, 3);
                int p = near(0, 7);
                boolean none = noClerk(c) || out(w, 0, 3) || out(p, 0, model.workers.get(c).program.size() - 1);
                return same("step(" + c + ", " + p + ", " + w + ")", () -> x.step(c, p, w),
                    none ? INDEX : (Object) model.workers.get(c).program.get(p)[w]);
            }
            case 4: {
                int w = near(0, 2);
                int back = near(0, 9);
                boolean none = out(back, 0, 9) || back >= model.closings.size() || out(w, 0, 2);
                return same("closing(" + back + ", " + w + ")", () -> x.closing(back, w),
                    none ? INDEX : (Object) model.closingTold(back, w));
            }
            default:
                return same("clash(" + c + ", " + o + ")", () -> x.clash(c, o),
                    noClerk(c) || noClerk(o) ? INDEX : (Object) model.clashing(c, o));
        }
    }

    private boolean askWhole(int which) {
        switch (which) {
            case 0: {
                int w = near(0, 6);
                return same("count(" + w + ")", () -> x.count(w), out(w, 0, 6) ? INDEX : (Object) model.counted(w));
            }
            case 1: {
                int c = anyClerk();
                int d = anyDrawer();
                return same("alone(" + c + ", " + d + ")", () -> x.alone(c, d),
                    noClerk(c) || noDrawer(d) ? INDEX : (Object) model.aloneAmount(c, d));
            }
            case 2:
                return same("until()", () -> x.until(), model.untilAll());
            case 3: {
                int n = below(2) == 0 ? near(1, 50) : near(1, 4);
                int w = near(2, 6);
                Object want = out(n, 1, 50) ? ARGUMENT : INDEX;
                if (!out(n, 1, 50) && !out(w, 2, 6)) {
                    Model later = model.copy();
                    later.rounds(n);
                    want = later.counted(w);
                }
                return same("foresee(" + n + ", " + w + ")", () -> x.foresee(n, w), want);
            }
            case 4:
                return same("advise()", () -> x.advise(), model.advised());
            default: {
                int clerks = model.workers.size();
                return same("mean()", () -> x.mean(), clerks == 0 ? 0.0 : model.counted(4) / (double) clerks);
            }
        }
    }

    private boolean oneCall() {
        int pick = below(100);
        if (pick < 1) return tillCall();
        if (pick < 5) return payCall();
        if (pick < 9) return clerkCall();
        if (pick < 29) return sayCall();
        if (pick < 59) return turnCall();
        if (pick < 63) return dropCall();
        if (pick < 66) return passCall();
        if (pick < 83) return askOne(below(6));
        return askWhole(below(6));
    }

    private boolean allCalls(int run) {
        for (int call = 1; call <= CALLS / 2; call++) {
            boolean good = oneCall();
            String made = text;
            good = good && same("digest() behind " + made, () -> x.digest(), model.digested());
            if (!good) {
                System.out.println("in run " + run + ", at call " + call);
                return false;
            }
        }
        return true;
    }

    public static void main(String[] args) {
        int wrong = 0;
        for (int run = 0; run < RUNS && wrong < 5; run++) {
            wrong += new ModelTest(run).allCalls(run) ? 0 : 1;
        }
        System.out.println(wrong == 0 ? RUNS + " runs are as the model's" : wrong + " runs are not as the model's");
        if (wrong != 0) {
            System.exit(1);
        }
    }
}
