/** Clerks work on the drawers of a till without locking them; whoever read what was changed loses. */
public final class TillOptimists {
    private static final int MOST_DRAWERS = 8;
    private static final int DRAWERS_AT_FIRST = 6;
    private static final int MOST_CLERKS = 6;
    private static final int MOST_STEPS = 8;
    private static final int MOST_AMOUNT = 9999;
    private static final int MOST_NUMBER = 999;
    private static final int MOST_ROUNDS = 50;
    private static final int LATEST_ROUND = 200;
    private static final int CLOSINGS_KEPT = 10;

    private static final int LOOK = 0;
    private static final int PUT = 1;
    private static final int ADD = 2;
    private static final int CARRY = 3;

    private static final int STEP_DONE = 0;
    private static final int CLOSED = 1;
    private static final int LOST = 2;

    private static final int NONE = -1;
    private static final int BY_HAND = -1;

    private static final int COUNT_FACTS = 7;
    private static final int DRAWER_FACTS = 4;
    private static final int CLERK_FACTS = 7;
    private static final int SLIP_FACTS = 3;
    private static final int STEP_FACTS = 4;
    private static final int CLOSING_FACTS = 3;

    private final Shop now;
    // What would be is tried out here, so that no call makes rows of its own.
    private final Shop trial;

    public TillOptimists() {
        now = new Shop();
        trial = new Shop();
    }

    // ---- the till.

    public int till(int drawers) throws IllegalArgumentException {
        if (drawers < 1 || drawers > MOST_DRAWERS) {
            throw new IllegalArgumentException("a till has 1 to 8 drawers");
        }
        int before = now.drawers;
        now.beginAnew(drawers);
        return before;
    }

    public int pay(int drawer, int amount) throws IndexOutOfBoundsException, IllegalArgumentException {
        needDrawer(drawer);
        if (amount < 0 || amount > MOST_AMOUNT) {
            throw new IllegalArgumentException("an amount is 0 to 9999");
        }
        int before = now.amounts[drawer];
        now.payByHand(drawer, amount);
        return before;
    }

    // ---- clerks.

    public int clerk() throws IllegalStateException {
        if (now.clerkCount >= MOST_CLERKS) {
            throw new IllegalStateException("there are 6 clerks");
        }
        return now.addClerk();
    }

    public int say(int clerk, int kind, int d, int e, int b)
            throws IndexOutOfBoundsException, IllegalArgumentException, IllegalStateException {
        needClerk(clerk);
        needWhat(kind, 0, CARRY);
        needDrawer(d);
        needDrawer(e);
        if (!fitsKind(kind, d, e, b)) {
            throw new IllegalArgumentException("the number or the drawers do not fit the kind");
        }
        Clerk worker = now.clerks[clerk];
        if (worker.done || worker.place != 0 || worker.steps >= MOST_STEPS) {
            throw new IllegalStateException("the program takes no step");
        }
        worker.addStep(kind, d, e, b);
        return worker.steps;
    }

    public int turn(int clerk) throws IndexOutOfBoundsException, IllegalStateException {
        needClerk(clerk);
        if (!now.clerks[clerk].isAtWork()) {
            throw new IllegalStateException("the clerk is done or has no steps");
        }
        return now.takeTurn(clerk);
    }

    public int drop(int clerk) throws IndexOutOfBoundsException {
        needClerk(clerk);
        Clerk worker = now.clerks[clerk];
        // The place of a clerk who is done stays behind the last step, so it tells those of the program.
        int stepsDone = worker.place;
        worker.startOver();
        return stepsDone;
    }

    public int pass(int rounds) throws IllegalArgumentException {
        needRounds(rounds);
        return now.goRounds(rounds);
    }

    // ---- what there is.

    public int drawer(int drawer, int what) throws IndexOutOfBoundsException {
        needDrawer(drawer);
        needWhat(what, 0, DRAWER_FACTS - 1);
        return now.drawerFact(drawer, what);
    }

    public int told(int clerk, int what) throws IndexOutOfBoundsException {
        needClerk(clerk);
        needWhat(what, 0, CLERK_FACTS - 1);
        return now.clerkFact(clerk, what);
    }

    public int slip(int clerk, int drawer, int what) throws IndexOutOfBoundsException {
        needClerk(clerk);
        needDrawer(drawer);
        needWhat(what, 0, SLIP_FACTS - 1);
        return now.clerks[clerk].slipFact(drawer, what);
    }

    public int step(int clerk, int place, int what) throws IndexOutOfBoundsException {
        needClerk(clerk);
        Clerk worker = now.clerks[clerk];
        if (place < 0 || place >= worker.steps) {
            throw new IndexOutOfBoundsException("no such step");
        }
        needWhat(what, 0, STEP_FACTS - 1);
        return worker.stepFact(place, what);
    }

    public int closing(int back, int what) throws IndexOutOfBoundsException {
        if (back < 0 || back >= now.closingsKept()) {
            throw new IndexOutOfBoundsException("no such closing");
        }
        needWhat(what, 0, CLOSING_FACTS - 1);
        return now.closingFact(back, what);
    }

    public boolean clash(int a, int b) throws IndexOutOfBoundsException {
        needClerk(a);
        needClerk(b);
        return now.clashes(a, b);
    }

    public int count(int what) throws IndexOutOfBoundsException {
        needWhat(what, 0, COUNT_FACTS - 1);
        return now.countFact(what);
    }

    // ---- what would be.

    public int alone(int clerk, int drawer) throws IndexOutOfBoundsException {
        needClerk(clerk);
        needDrawer(drawer);
        trial.become(now);
        trial.workAlone(clerk);
        return trial.amounts[drawer];
    }

    public int until() {
        trial.become(now);
        for (int rounds = 0; rounds <= LATEST_ROUND; rounds++) {
            if (!trial.isAnyAtWork()) {
                return rounds;
            }
            trial.goRound();
        }
        return -1;
    }

    public int foresee(int rounds, int what) throws IllegalArgumentException, IndexOutOfBoundsException {
        needRounds(rounds);
        needWhat(what, 2, COUNT_FACTS - 1);
        trial.become(now);
        trial.goRounds(rounds);
        return trial.countFact(what);
    }

    public int advise() {
        int best = NONE;
        int fewest = 0;
        int place = 0;
        for (int c = 0; c < now.clerkCount; c++) {
            Clerk worker = now.clerks[c];
            if (!worker.isAtWork()) {
                continue;
            }
            int losers = now.countClashes(c);
            if (best == NONE || losers < fewest || (losers == fewest && worker.place > place)) {
                best = c;
                fewest = losers;
                place = worker.place;
            }
        }
        return best;
    }

    public double mean() {
        if (now.clerkCount < 1) {
            return 0.0;
        }
        return (double) now.sumLost() / (double) now.clerkCount;
    }

    public long digest() {
        long d = 1811L;
        for (int what = 0; what < COUNT_FACTS; what++) {
            d = d * 31L + now.countFact(what);
        }
        d = digestDrawers(d);
        d = digestClerks(d);
        return digestClosings(d);
    }

    // ---- helpers.

    private long digestDrawers(long start) {
        long d = start;
        for (int drawer = 0; drawer < now.drawers; drawer++) {
            for (int what = 0; what < DRAWER_FACTS; what++) {
                d = d * 31L + now.drawerFact(drawer, what);
            }
        }
        return d;
    }

    private long digestClerks(long start) {
        long d = start;
        for (int c = 0; c < now.clerkCount; c++) {
            for (int what = 0; what < CLERK_FACTS; what++) {
                d = d * 31L + now.clerkFact(c, what);
            }
            for (int drawer = 0; drawer < now.drawers; drawer++) {
                for (int what = 0; what < SLIP_FACTS; what++) {
                    d = d * 31L + now.clerks[c].slipFact(drawer, what);
                }
            }
        }
        return d;
    }

    private long digestClosings(long start) {
        long d = start;
        int kept = now.closingsKept();
        for (int back = 0; back < kept; back++) {
            for (int what = 0; what < CLOSING_FACTS; what++) {
                d = d * 31L + now.closingFact(back, what);
            }
        }
        return d;
    }

    private static boolean fitsKind(int kind, int d, int e, int b) {
        if (b < -MOST_NUMBER || b > MOST_NUMBER) {
            return false;
        }
        if (kind == PUT) {
            return b >= 0;
        }
        if (kind == CARRY) {
            return b >= 1 && d != e;
        }
        return true;
    }

    private void needDrawer(int drawer) {
        if (drawer < 0 || drawer >= now.drawers) {
            throw new IndexOutOfBoundsException("no such drawer");
        }
    }

    private void needClerk(int clerk) {
        if (clerk < 0 || clerk >= now.clerkCount) {
            throw new IndexOutOfBoundsException("no such clerk");
        }
    }

    private static void needWhat(int what, int least, int most) {
        if (what < least || what > most) {
            throw new IndexOutOfBoundsException("no such number to choose by");
        }
    }

    private static void needRounds(int rounds) {
        if (rounds < 1 || rounds > MOST_ROUNDS) {
            throw new IllegalArgumentException("rounds are 1 to 50");
        }
    }

    /** A program, the place in it, and the slip. */
    private static final class Clerk {
        private int steps;
        private final int[] kinds;
        private final int[] firsts;
        private final int[] seconds;
        private final int[] numbers;

        private int place;
        private boolean done;
        private int lost;

        // The slip, by drawers; NONE where nothing is remembered or written.
        private final int[] remembered;
        private final int[] rememberedSeals;
        private final int[] own;

        private Clerk() {
            kinds = new int[MOST_STEPS];
            firsts = new int[MOST_STEPS];
            seconds = new int[MOST_STEPS];
            numbers = new int[MOST_STEPS];
            remembered = new int[MOST_DRAWERS];
            rememberedSeals = new int[MOST_DRAWERS];
            own = new int[MOST_DRAWERS];
            startOver();
        }

        private void beginAnew() {
            steps = 0;
            lost = 0;
            startOver();
        }

        private void startOver() {
            place = 0;
            done = false;
            for (int d = 0; d < MOST_DRAWERS; d++) {
                remembered[d] = NONE;
                rememberedSeals[d] = NONE;
                own[d] = NONE;
            }
        }

        private void become(Clerk other) {
            steps = other.steps;
            place = other.place;
            done = other.done;
            lost = other.lost;
            for (int s = 0; s < MOST_STEPS; s++) {
                kinds[s] = other.kinds[s];
                firsts[s] = other.firsts[s];
                seconds[s] = other.seconds[s];
                numbers[s] = other.numbers[s];
            }
            for (int d = 0; d < MOST_DRAWERS; d++) {
                remembered[d] = other.remembered[d];
                rememberedSeals[d] = other.rememberedSeals[d];
                own[d] = other.own[d];
            }
        }

        private void addStep(int kind, int d, int e, int b) {
            if (steps >= MOST_STEPS) {
                return;
            }
            kinds[steps] = kind;
            firsts[steps] = d;
            seconds[steps] = e;
            numbers[steps] = b;
            steps++;
        }

        private boolean isAtWork() {
            return !done && steps > 0;
        }

        private boolean remembers(int d) {
            return remembered[d] != NONE;
        }

        private boolean hasWritten(int d) {
            return own[d] != NONE;
        }

        private int countRemembered() {
            int sum = 0;
            for (int d = 0; d < MOST_DRAWERS; d++) {
                sum += remembers(d) ? 1 : 0;
            }
            return sum;
        }

        private int countWritten() {
            int sum = 0;
            for (int d = 0; d < MOST_DRAWERS; d++) {
                sum += hasWritten(d) ? 1 : 0;
            }
            return sum;
        }

        private int slipFact(int d, int what) {
            switch (what) {
                case 0:
                    return remembered[d];
                case 1:
                    return rememberedSeals[d];
                default:
                    return own[d];
            }
        }

        private int stepFact(int at, int what) {
            switch (what) {
                case 0:
                    return kinds[at];
                case 1:
                    return firsts[at];
                case 2:
                    return seconds[at];
                default:
                    return numbers[at];
            }
        }
    }

    /** The till with its drawers, the clerks, and the latest closings. */
    private static final class Shop {
        private int drawers;
        private final int[] amounts;
        private final int[] seals;

        private int clerkCount;
        private final Clerk[] clerks;

        // The rows of the latest closings begin with the latest one.
        private int closings;
        private final int[] closers;
        private final int[] writtens;
        private final int[] sums;

        private Shop() {
            drawers = DRAWERS_AT_FIRST;
            amounts = new int[MOST_DRAWERS];
            seals = new int[MOST_DRAWERS];
            clerks = new Clerk[MOST_CLERKS];
            for (int c = 0; c < MOST_CLERKS; c++) {
                clerks[c] = new Clerk();
            }
            closers = new int[CLOSINGS_KEPT];
            writtens = new int[CLOSINGS_KEPT];
            sums = new int[CLOSINGS_KEPT];
        }

        private void beginAnew(int howMany) {
            drawers = howMany;
            clerkCount = 0;
            closings = 0;
            for (int d = 0; d < MOST_DRAWERS; d++) {
                amounts[d] = 0;
                seals[d] = 0;
            }
        }

        private void become(Shop other) {
            drawers = other.drawers;
            clerkCount = other.clerkCount;
            closings = other.closings;
            for (int d = 0; d < MOST_DRAWERS; d++) {
                amounts[d] = other.amounts[d];
                seals[d] = other.seals[d];
            }
            for (int c = 0; c < clerkCount; c++) {
                clerks[c].become(other.clerks[c]);
            }
            for (int back = 0; back < CLOSINGS_KEPT; back++) {
                closers[back] = other.closers[back];
                writtens[back] = other.writtens[back];
                sums[back] = other.sums[back];
            }
        }

        private int addClerk() {
            int number = clerkCount;
            if (number < MOST_CLERKS) {
                clerks[number].beginAnew();
                clerkCount++;
            }
            return number;
        }

        private void payByHand(int d, int amount) {
            closings++;
            amounts[d] = amount;
            seals[d] = closings;
            keepClosing(BY_HAND, 1);
        }

        private void keepClosing(int closer, int written) {
            for (int back = CLOSINGS_KEPT - 1; back > 0; back--) {
                closers[back] = closers[back - 1];
                writtens[back] = writtens[back - 1];
                sums[back] = sums[back - 1];
            }
            closers[0] = closer;
            writtens[0] = written;
            sums[0] = sumAmounts();
        }

        private int takeTurn(int c) {
            Clerk worker = clerks[c];
            if (worker.place < worker.steps) {
                doStep(worker);
                worker.place++;
                return STEP_DONE;
            }
            if (isOutdated(worker)) {
                worker.lost++;
                worker.startOver();
                return LOST;
            }
            close(c);
            return CLOSED;
        }

        private void doStep(Clerk worker) {
            int d = worker.firsts[worker.place];
            int b = worker.numbers[worker.place];
            switch (worker.kinds[worker.place]) {
                case LOOK:
                    read(worker, d);
                    break;
                case PUT:
                    worker.own[d] = b;
                    break;
                case ADD:
                    worker.own[d] = held(read(worker, d) + b);
                    break;
                default:
                    carry(worker, d, worker.seconds[worker.place], b);
                    break;
            }
        }

        private void carry(Clerk worker, int d, int e, int b) {
            int from = read(worker, d);
            if (from < b) {
                return;
            }
            int to = read(worker, e);
            worker.own[d] = from - b;
            worker.own[e] = held(to + b);
        }

        private int read(Clerk worker, int d) {
            if (worker.hasWritten(d)) {
                return worker.own[d];
            }
            if (!worker.remembers(d)) {
                worker.remembered[d] = amounts[d];
                worker.rememberedSeals[d] = seals[d];
            }
            return worker.remembered[d];
        }

        private static int held(int amount) {
            return amount < 0 ? 0 : Math.min(amount, MOST_AMOUNT);
        }

        private boolean isOutdated(Clerk worker) {
            for (int d = 0; d < drawers; d++) {
                if (worker.remembers(d) && worker.rememberedSeals[d] != seals[d]) {
                    return true;
                }
            }
            return false;
        }

        private void close(int c) {
            Clerk worker = clerks[c];
            closings++;
            for (int d = 0; d < drawers; d++) {
                if (worker.hasWritten(d)) {
                    amounts[d] = worker.own[d];
                    seals[d] = closings;
                }
            }
            worker.done = true;
            keepClosing(c, worker.countWritten());
        }

        private int goRounds(int rounds) {
            int closed = 0;
            for (int r = 0; r < rounds; r++) {
                closed += goRound();
            }
            return closed;
        }

        private int goRound() {
            int closed = 0;
            for (int c = 0; c < clerkCount; c++) {
                if (clerks[c].isAtWork() && takeTurn(c) == CLOSED) {
                    closed++;
                }
            }
            return closed;
        }

        private void workAlone(int c) {
            Clerk worker = clerks[c];
            worker.startOver();
            for (int turns = 0; turns <= MOST_STEPS && worker.isAtWork(); turns++) {
                takeTurn(c);
            }
        }

        private boolean isAnyAtWork() {
            for (int c = 0; c < clerkCount; c++) {
                if (clerks[c].isAtWork()) {
                    return true;
                }
            }
            return false;
        }

        private boolean clashes(int a, int b) {
            Clerk writer = clerks[a];
            Clerk reader = clerks[b];
            if (a == b || writer.done || reader.done) {
                return false;
            }
            for (int d = 0; d < drawers; d++) {
                if (writer.hasWritten(d) && reader.remembers(d)) {
                    return true;
                }
            }
            return false;
        }

        private int countClashes(int a) {
            int sum = 0;
            for (int b = 0; b < clerkCount; b++) {
                sum += clashes(a, b) ? 1 : 0;
            }
            return sum;
        }

        private int closingsKept() {
            return Math.min(closings, CLOSINGS_KEPT);
        }

        private int closingFact(int back, int what) {
            switch (what) {
                case 0:
                    return closers[back];
                case 1:
                    return writtens[back];
                default:
                    return sums[back];
            }
        }

        private int countFact(int what) {
            switch (what) {
                case 0:
                    return drawers;
                case 1:
                    return clerkCount;
                case 2:
                    return countDone();
                case 3:
                    return closings;
                case 4:
                    return sumLost();
                case 5:
                    return sumAmounts();
                default:
                    return countLosers();
            }
        }

        private int drawerFact(int d, int what) {
            switch (what) {
                case 0:
                    return amounts[d];
                case 1:
                    return seals[d];
                case 2:
                    return countRememberers(d);
                default:
                    return countWriters(d);
            }
        }

        private int clerkFact(int c, int what) {
            Clerk worker = clerks[c];
            switch (what) {
                case 0:
                    return worker.steps;
                case 1:
                    return worker.place;
                case 2:
                    return worker.done ? 1 : 0;
                case 3:
                    return worker.lost;
                case 4:
                    return worker.countRemembered();
                case 5:
                    return worker.countWritten();
                default:
                    return wouldLose(worker) ? 1 : 0;
            }
        }

        private boolean wouldLose(Clerk worker) {
            return !worker.done && isOutdated(worker);
        }

        private int countDone() {
            int sum = 0;
            for (int c = 0; c < clerkCount; c++) {
                sum += clerks[c].done ? 1 : 0;
            }
            return sum;
        }

        private int countLosers() {
            int sum = 0;
            for (int c = 0; c < clerkCount; c++) {
                sum += wouldLose(clerks[c]) ? 1 : 0;
            }
            return sum;
        }

        private int countRememberers(int d) {
            int sum = 0;
            for (int c = 0; c < clerkCount; c++) {
                sum += !clerks[c].done && clerks[c].remembers(d) ? 1 : 0;
            }
            return sum;
        }

        private int countWriters(int d) {
            int sum = 0;
            for (int c = 0; c < clerkCount; c++) {
                sum += !clerks[c].done && clerks[c].hasWritten(d) ? 1 : 0;
            }
            return sum;
        }

        private int sumLost() {
            int sum = 0;
            for (int c = 0; c < clerkCount; c++) {
                sum += clerks[c].lost;
            }
            return sum;
        }

        private int sumAmounts() {
            int sum = 0;
            for (int d = 0; d < drawers; d++) {
                sum += amounts[d];
            }
            return sum;
        }
    }
}
