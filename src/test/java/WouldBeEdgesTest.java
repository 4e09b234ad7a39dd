import java.math.BigInteger;
import java.util.ArrayList;
import java.util.List;

/** Promises 16 to 21: each sentence by a test of its own. */
public final class WouldBeEdgesTest extends Sentences {
    private static final int LOOK = 0;
    private static final int PUT = 1;
    private static final int ADD = 2;
    private static final int CARRY = 3;

    private static final Made[] STATES = {States::bare, States::least, States::midway, States::full,
        WouldBeEdgesTest::longestRun};

    private static void onlyTells(String call, Call asked) {
        for (Made state : STATES) {
            changesNothing(call, state, asked);
        }
    }

    // ---- alone.

    private static void alone() {
        in("Promise 16");
        holds("- clerk: a clerk - drawer: a drawer", () -> {
            TillOptimists x = States.tillWithClerks(8, 6);
            x.say(0, PUT, 7, 7, 3);
            x.say(5, PUT, 0, 0, 4);
            for (int c = 0; c < 6; c++) {
                for (int d = 0; d < 8; d++) {
                    due("alone(" + c + ", " + d + ")", x.alone(c, d), c == 0 && d == 7 ? 3 : c == 5 && d == 0 ? 4 : 0);
                }
            }
        });
        holds("Returns the amount that the drawer would have", () -> {
            TillOptimists x = States.tillWithClerks(8, 1);
            x.pay(0, 9990);
            x.pay(1, 5);
            x.pay(7, 1234);
            x.say(0, ADD, 0, 0, 10);
            x.say(0, ADD, 1, 1, -999);
            x.say(0, CARRY, 0, 2, 999);
            x.say(0, CARRY, 1, 3, 1);
            due("alone: held at 9999, less what is carried", x.alone(0, 0), 9000);
            due("alone: held at 0", x.alone(0, 1), 0);
            due("alone: what is carried", x.alone(0, 2), 999);
            due("alone: what is not carried", x.alone(0, 3), 0);
            due("alone: a drawer that it does not touch", x.alone(0, 7), 1234);
            due("alone of one without steps", States.clerks(1).alone(0, 5), 0);
        });
        holds(", if this clerk began its program now", () -> begunNow());
        holds(" and closed, alone ", () -> {
            TillOptimists x = States.clerks(3);
            for (int c = 0; c < 3; c++) {
                for (int i = 0; i < 8; i++) {
                    x.say(c, ADD, 0, 0, c + 1);
                }
            }
            x.pass(4);
            for (int c = 0; c < 3; c++) {
                due("alone(" + c + ", 0) through eight steps", x.alone(c, 0), 8 * (c + 1));
                due("alone(" + c + ", 1)", x.alone(c, 1), 0);
            }
        });
        aloneRefused();
    }

    private static void begunNow() {
        for (int turns = 0; turns <= 3; turns++) {
            TillOptimists x = States.clerks(1);
            x.say(0, ADD, 0, 0, 5);
            x.say(0, CARRY, 0, 1, 100);
            turns(x, 0, turns);
            due("alone(0, 0) behind " + turns + ", without a change", x.alone(0, 0), turns == 3 ? 10 : 5);
            x.pay(0, 95);
            due("alone(0, 0) behind " + turns, x.alone(0, 0), 0);
            due("alone(0, 1) behind " + turns, x.alone(0, 1), 100);
            x.pay(0, 94);
            due("alone(0, 0) of one less", x.alone(0, 0), 99);
            due("alone(0, 1) of one less", x.alone(0, 1), 0);
        }
    }

    private static void aloneRefused() {
        holds("(nothing is changed).", () -> {
            onlyTells("alone(0, 0)", x -> x.alone(0, 0));
            onlyTells("alone(2, 2)", x -> x.alone(2, 2));
            onlyTells("alone(5, 7)", x -> x.alone(5, 7));
        });
        holds("Throws IndexOutOfBoundsException if there is no such clerk or drawer", () -> {
            refusedWith("alone(#, 0) of none", States::bare, INDEX, (x, c) -> x.alone(c, 0), -1, 0);
            refusedWith("alone(#, 0) of one", States::least, INDEX, (x, c) -> x.alone(c, 0), -1, 1);
            refusedWith("alone(#, 0) of six", States::full, INDEX, (x, c) -> x.alone(c, 0), -1, 6, LOW, HIGH);
            refusedWith("alone(0, #) of 1", States::least, INDEX, (x, d) -> x.alone(0, d), -1, 1, 7);
            refusedWith("alone(0, #) of 6", States::midway, INDEX, (x, d) -> x.alone(0, d), -1, 6, 7);
            refusedWith("alone(5, #) of 8", States::full, INDEX, (x, d) -> x.alone(5, d), -1, 8, LOW, HIGH);
        });
    }

    // ---- until.

    /** Six clerks of eight steps, all about to lose what they have begun: the longest run that there is. */
    private static TillOptimists longestRun() {
        TillOptimists x = States.clerks(6);
        for (int c = 0; c < 6; c++) {
            for (int i = 0; i < 8; i++) {
                x.say(c, ADD, 0, 0, 1);
            }
            x.turn(c);
        }
        x.pay(0, 0);
        return x;
    }

    private static boolean areDone(TillOptimists x) {
        for (int c = 0; c < x.count(1); c++) {
            if (x.told(c, 0) > 0 && x.told(c, 2) == 0) {
                return false;
            }
        }
        return true;
    }

    private static int roundsUntilDone(TillOptimists x) {
        int rounds = 0;
        while (rounds < 200 && !areDone(x)) {
            x.pass(1);
            rounds++;
        }
        return rounds;
    }

    private static void until() {
        in("Promise 17");
        holds("Returns behind how many rounds all clerks", () -> {
            for (Made state : STATES) {
                due("until()", state.make().until(), roundsUntilDone(state.make()));
            }
            due("until() of one step", States.least().until(), 2);
            TillOptimists x = States.clerks(1);
            for (int i = 0; i < 8; i++) {
                x.say(0, LOOK, 0, 0, 0);
            }
            for (int turns = 0; turns <= 8; turns++) {
                due("until() behind " + turns, x.until(), 9 - turns);
                x.turn(0);
            }
        });
        holds(" who have a step", () -> {
            due("until() without clerks", new TillOptimists().until(), 0);
            due("until() of six without steps", States.clerks(6).until(), 0);
            TillOptimists x = States.clerks(6);
            x.say(5, LOOK, 0, 0, 0);
            due("until() of one with a step", x.until(), 2);
        });
        holds(" are done: 0 if they are now", () -> {
            TillOptimists x = States.least();
            x.turn(0);
            due("until() ahead of closing", x.until(), 1);
            x.turn(0);
            due("until() behind closing", x.until(), 0);
            x.clerk();
            due("until() beside one without steps", x.until(), 0);
            x.drop(0);
            due("until() behind drop", x.until(), 2);
        });
        holds(", at most 200; -1 if not by then ", () -> {
            // Of six clerks someone closes in any seventeen rounds, so that the -1 never comes about.
            due("until() of the longest run", longestRun().until(), 62);
            TillOptimists x = longestRun();
            due("pass(50)", x.pass(50), 4);
            due("until() behind 50", x.until(), 12);
            due("pass(11)", x.pass(11), 1);
            due("until() behind 61", x.until(), 1);
            due("pass(1)", x.pass(1), 1);
            due("until() behind 62", x.until(), 0);
        });
        holds("(nothing is changed).", () -> onlyTells("until()", x -> x.until()));
    }

    // ---- foresee.

    private static void foresee() {
        in("Promise 18");
        holds("- rounds: how many, 1 to 50", () -> {
            for (Made state : STATES) {
                for (int rounds : new int[] {1, 2, 3, 8, 9, 10, 17, 18, 49, 50}) {
                    foreseesWhatComes(state, rounds);
                }
            }
            due("foresee(49, 2)", longestRun().foresee(49, 2), 4);
            due("foresee(44, 2) at the edge of a closing", longestRun().foresee(44, 2), 4);
            due("foresee(43, 2) at the edge of a closing", longestRun().foresee(43, 2), 3);
            TillOptimists x = longestRun();
            x.pass(3);
            due("foresee(50, 2), one closes in the last round", x.foresee(50, 2), 5);
            due("foresee(49, 2), one closes in the next round", x.foresee(49, 2), 4);
        });
        holds("- what: 2 to 6 as count() has it", () -> {
            int[] behindOne = {1, 3, 1, 10116, 0};
            int[] behindTwo = {2, 4, 1, 10116, 0};
            for (int what = 2; what <= 6; what++) {
                due("foresee(1, " + what + ")", States.midway().foresee(1, what), behindOne[what - 2]);
                due("foresee(2, " + what + ")", States.midway().foresee(2, what), behindTwo[what - 2]);
            }
        });
        holds("Returns this, behind so many rounds ", () -> {
            TillOptimists x = States.least();
            due("foresee(1, 3)", x.foresee(1, 3), 0);
            due("foresee(2, 3)", x.foresee(2, 3), 1);
            x.turn(0);
            due("foresee(1, 3) ahead of closing", x.foresee(1, 3), 1);
            x.pay(0, 5);
            due("foresee(1, 4)", x.foresee(1, 4), 1);
            due("foresee(2, 5)", x.foresee(2, 5), 5);
            due("foresee(3, 5)", x.foresee(3, 5), 6);
            due("foresee(50, 2) without clerks", new TillOptimists().foresee(50, 2), 0);
        });
        holds("(nothing is changed).", () -> {
            for (int what = 2; what <= 6; what++) {
                int w = what;
                onlyTells("foresee(1, " + what + ")", x -> x.foresee(1, w));
                onlyTells("foresee(50, " + what + ")", x -> x.foresee(50, w));
            }
        });
        foreseeRefused();
    }

    private static void foreseesWhatComes(Made state, int rounds) {
        TillOptimists later = state.make();
        later.pass(rounds);
        for (int what = 2; what <= 6; what++) {
            due("foresee(" + rounds + ", " + what + ")", state.make().foresee(rounds, what), later.count(what));
        }
    }

    private static void foreseeRefused() {
        holds("Throws IllegalArgumentException if rounds is not 1 to 50", () -> {
            for (Made state : STATES) {
                refusedWith("foresee(#, 2)", state, ARGUMENT, (x, r) -> x.foresee(r, 2), 0, 51, -1, LOW, HIGH);
                refusedWith("foresee(#, 7)", state, ARGUMENT, (x, r) -> x.foresee(r, 7), 0, 51);
                refusedWith("foresee(#, 1)", state, ARGUMENT, (x, r) -> x.foresee(r, 1), 0, 51);
            }
        });
        holds("Throws IndexOutOfBoundsException if what is not 2 to 6", () -> {
            for (Made state : STATES) {
                refusedWith("foresee(1, #)", state, INDEX, (x, w) -> x.foresee(1, w), 0, 1, 7, -1, LOW, HIGH);
                refusedWith("foresee(50, #)", state, INDEX, (x, w) -> x.foresee(50, w), 1, 7);
            }
        });
    }

    // ---- advise.

    private static void advise() {
        in("Promise 19");
        holds("Returns the clerk who had best close first: of those who are not done", () -> {
            TillOptimists x = States.clerks(2);
            x.say(0, LOOK, 0, 0, 0);
            x.say(1, LOOK, 0, 0, 0);
            turns(x, 0, 2);
            due("advise(), the first one done", x.advise(), 1);
            x.drop(0);
            due("advise(), the first one dropped", x.advise(), 0);
            onlyTells("advise()", y -> y.advise());
        });
        holds(" and have a step", () -> {
            TillOptimists x = States.clerks(6);
            x.say(5, LOOK, 0, 0, 0);
            due("advise(), the last one with a step", x.advise(), 5);
            x.turn(5);
            due("advise() at its end", x.advise(), 5);
        });
        fewest();
        adviseTies();
        holds("; -1 without one.", () -> {
            due("advise() without clerks", new TillOptimists().advise(), -1);
            due("advise() of six without steps", States.clerks(6).advise(), -1);
            TillOptimists x = States.clerks(6);
            for (int c = 0; c < 6; c++) {
                x.say(c, PUT, 0, 0, 0);
            }
            due("advise() of six", x.advise(), 0);
            x.pass(2);
            due("advise() of six who are done", x.advise(), -1);
        });
    }

    /** Programs of one step each, of this kind on this drawer, and all steps done. */
    private static TillOptimists behindAStep(int[]... kindsAndDrawers) {
        TillOptimists x = States.clerks(kindsAndDrawers.length);
        for (int c = 0; c < kindsAndDrawers.length; c++) {
            x.say(c, kindsAndDrawers[c][0], kindsAndDrawers[c][1], 0, 1);
        }
        x.pass(1);
        return x;
    }

    private static int[] on(int kind, int drawer) {
        return new int[] {kind, drawer};
    }

    private static void fewest() {
        holds(", the one with whom the fewest others clash ", () -> {
            TillOptimists x = behindAStep(on(PUT, 0), on(PUT, 1), on(PUT, 2), on(LOOK, 0), on(LOOK, 0), on(LOOK, 1));
            due("advise(): two, one, none", x.advise(), 2);
            x.turn(2);
            due("advise(): two, one, none of the readers", x.advise(), 3);
            turns(x, 3, 1);
            turns(x, 4, 1);
            turns(x, 5, 1);
            due("advise(): those who are done do not clash", x.advise(), 0);
            x = behindAStep(on(ADD, 0), on(PUT, 1));
            due("advise(): one does not clash with itself", x.advise(), 0);
            x = States.clerks(6);
            for (int c = 0; c < 6; c++) {
                x.say(c, ADD, c == 5 ? 1 : 0, 0, 1);
            }
            x.pass(1);
            due("advise(): five, and none", x.advise(), 5);
        });
        holds("(as clash() tells it, this one as the first)", () -> {
            due("advise(): the greater place, but clerk 0 clashes", advisedWithGreaterPlace(0, 1), 0);
            due("advise(): the greater place, but clerk 1 clashes", advisedWithGreaterPlace(1, 0), 1);
            due("advise(): the reader of what another writes", behindAStep(on(LOOK, 0), on(PUT, 0)).advise(), 0);
            due("advise(): the reader behind the writer", behindAStep(on(PUT, 0), on(LOOK, 0)).advise(), 1);
            due("advise(): a reader who is done", advisedBehindReading(), 0);
        });
    }

    private static int advisedWithGreaterPlace(int reader, int writer) {
        TillOptimists x = States.clerks(2);
        x.say(reader, LOOK, 0, 0, 0);
        x.say(writer, PUT, 0, 0, 0);
        x.say(writer, PUT, 0, 0, 0);
        turns(x, reader, 1);
        turns(x, writer, 2);
        return x.advise();
    }

    private static int advisedBehindReading() {
        TillOptimists x = behindAStep(on(PUT, 0), on(LOOK, 0), on(PUT, 1));
        x.turn(1);
        return x.advise();
    }

    private static void adviseTies() {
        holds(", of several the one with the greater place", () -> {
            TillOptimists x = States.clerks(3);
            for (int c = 0; c < 3; c++) {
                for (int i = 0; i < 8; i++) {
                    x.say(c, PUT, c, 0, 1);
                }
            }
            x.turn(1);
            due("advise(): place 0, 1, 0", x.advise(), 1);
            x.turn(2);
            x.turn(2);
            due("advise(): place 0, 1, 2", x.advise(), 2);
            turns(x, 0, 8);
            turns(x, 1, 6);
            turns(x, 2, 6);
            due("advise(): place 8, 7, 8", x.advise(), 0);
            x = States.clerks(2);
            x.say(0, PUT, 0, 0, 1);
            x.say(1, LOOK, 0, 0, 1);
            x.say(0, PUT, 0, 0, 1);
            turns(x, 0, 2);
            x.turn(1);
            due("advise(): the greater place, but one clashes", x.advise(), 1);
        });
        holds(", of several the smallest number", () -> {
            TillOptimists x = States.clerks(6);
            for (int c = 1; c < 6; c++) {
                x.say(c, PUT, 0, 0, 1);
            }
            due("advise() at first", x.advise(), 1);
            x.pass(1);
            due("advise() behind a step", x.advise(), 1);
            x.drop(1);
            due("advise() with the first one dropped", x.advise(), 2);
            x.turn(1);
            x.say(0, PUT, 0, 0, 1);
            x.turn(0);
            due("advise() with all at the same place", x.advise(), 0);
        });
    }

    // ---- mean.

    private static TillOptimists lost(int clerks, int goes) {
        TillOptimists x = States.clerks(clerks);
        x.say(clerks - 1, LOOK, 0, 0, 0);
        for (int i = 0; i < goes; i++) {
            x.turn(clerks - 1);
            x.pay(0, 0);
            x.turn(clerks - 1);
        }
        return x;
    }

    private static void mean() {
        in("Promise 20");
        holds("Returns the mean of goes lost by clerks", () -> {
            for (int clerks = 1; clerks <= 6; clerks++) {
                for (int goes : new int[] {0, 1, 2, 3, 7, 100}) {
                    due("mean() of " + goes + " by " + clerks, lost(clerks, goes).mean(), (double) goes / clerks);
                }
            }
            TillOptimists x = lost(3, 5);
            x.turn(2);
            x.turn(2);
            due("mean() with one done", x.mean(), 5.0 / 3.0);
            x.say(0, LOOK, 1, 1, 0);
            x.turn(0);
            x.pay(1, 1);
            due("mean() of one who would lose", x.mean(), 5.0 / 3.0);
            x.turn(0);
            due("mean() of two who lost", x.mean(), 2.0);
            onlyTells("mean()", y -> y.mean());
        });
        holds("; 0 without any.", () -> {
            due("mean() without clerks", new TillOptimists().mean(), 0.0);
            due("mean() of six who lost none", States.clerks(6).mean(), 0.0);
            TillOptimists x = lost(1, 3);
            x.till(6);
            due("mean() on another till", x.mean(), 0.0);
        });
    }

    // ---- digest.

    /** The numbers of the checksum, in the document's order. */
    private static List<Integer> numbers(TillOptimists x) {
        List<Integer> all = new ArrayList<>();
        for (int what = 0; what < 7; what++) {
            all.add(x.count(what));
        }
        int drawers = all.get(0);
        for (int d = 0; d < drawers; d++) {
            for (int what = 0; what < 4; what++) {
                all.add(x.drawer(d, what));
            }
        }
        for (int c = 0; c < all.get(1); c++) {
            for (int what = 0; what < 7; what++) {
                all.add(x.told(c, what));
            }
            for (int d = 0; d < drawers; d++) {
                for (int what = 0; what < 3; what++) {
                    all.add(x.slip(c, d, what));
                }
            }
        }
        for (int back = 0; back < 10 && back < all.get(3); back++) {
            for (int what = 0; what < 3; what++) {
                all.add(x.closing(back, what));
            }
        }
        return all;
    }

    private static BigInteger unwrapped(List<Integer> numbers) {
        BigInteger d = BigInteger.valueOf(1811);
        for (int x : numbers) {
            d = d.multiply(BigInteger.valueOf(31)).add(BigInteger.valueOf(x));
        }
        return d;
    }

    private static void digestIs(String of, Made state) {
        due("digest() " + of, state.make().digest(), unwrapped(numbers(state.make())).longValue());
    }

    private static TillOptimists paid(int closings) {
        TillOptimists x = States.tillWithClerks(1, 0);
        for (int i = 1; i <= closings; i++) {
            x.pay(0, 7 * i);
        }
        return x;
    }

    private static long chained(int... numbers) {
        long d = 1811L;
        for (int x : numbers) {
            d = d * 31 + x;
        }
        return d;
    }

    private static void digest() {
        in("Promise 21");
        holds("Computes a checksum. A number d starts with 1811; for each of the following numbers x, d becomes d * 31 + x",
            () -> {
                due("digest() of one drawer", paid(0).digest(), chained(1, 0, 0, 0, 0, 0, 0, 0, 0, 0, 0));
                due("digest() of one closing", paid(1).digest(),
                    chained(1, 0, 0, 1, 0, 7, 0, 7, 1, 0, 0, -1, 1, 7));
            });
        holds(", which wraps around as a 64-bit integer", () -> {
            for (Made state : STATES) {
                BigInteger whole = unwrapped(numbers(state.make()));
                due("more than 63 bits", whole.bitLength() > 63, true);
                due("digest()", state.make().digest(), whole.longValue());
            }
            due("digest() below 0", signOfSome(-1), true);
            due("digest() above 0", signOfSome(1), true);
        });
        digestOrder();
        digestClosings();
        holds("Returns d.", () -> {
            due("digest() twice", paid(3).digest(), paid(3).digest());
            onlyTells("digest()", x -> x.digest());
        });
    }

    private static boolean signOfSome(int sign) {
        for (int closings = 0; closings < 12; closings++) {
            if (Long.signum(paid(closings).digest()) == sign) {
                return true;
            }
        }
        return false;
    }

    private static void digestOrder() {
        holds(": what count() tells, in its order; for each drawer what drawer() tells", () -> {
            digestIs("of a bare one", States::bare);
            for (int n = 1; n <= 8; n++) {
                int drawers = n;
                digestIs("of " + n + " drawers", () -> States.tillWithClerks(drawers, 0));
            }
            TillOptimists x = States.tillWithClerks(2, 0);
            x.pay(1, 5);
            x.pay(0, 6);
            due("digest() of two drawers", x.digest(),
                chained(2, 0, 0, 2, 0, 11, 0, 6, 2, 0, 0, 5, 1, 0, 0, -1, 1, 11, -1, 1, 5));
        });
        holds("; for each clerk what told() tells, then for each drawer what slip() tells", () -> {
            for (int clerks = 0; clerks <= 6; clerks++) {
                int c = clerks;
                digestIs("of " + clerks + " clerks", () -> States.clerks(c));
            }
            digestIs("of the least", States::least);
            digestIs("midway", States::midway);
            digestIs("of a full one", States::full);
            TillOptimists x = States.tillWithClerks(2, 2);
            x.say(1, ADD, 1, 1, 5);
            x.turn(1);
            due("digest() of two clerks", x.digest(),
                chained(2, 2, 0, 0, 0, 0, 0, 0, 0, 0, 0, 0, 0, 1, 1, 0, 0, 0, 0, 0, 0, 0, -1, -1, -1, -1, -1, -1,
                    1, 1, 0, 0, 1, 1, 0, -1, -1, -1, 0, 0, 5));
        });
    }

    private static void digestClosings() {
        holds("; for the latest closings, at most 10, what closing() tells (all in their order).", () -> {
            for (int closings : new int[] {0, 1, 2, 9, 10, 11, 12, 20, 21, 300}) {
                digestIs("of " + closings + " closings", () -> paid(closings));
            }
            int[] due = new int[11 + 30];
            int[] head = {1, 0, 0, 11, 0, 77, 0, 77, 11, 0, 0};
            System.arraycopy(head, 0, due, 0, head.length);
            for (int back = 0; back < 10; back++) {
                due[11 + 3 * back] = -1;
                due[12 + 3 * back] = 1;
                due[13 + 3 * back] = 7 * (11 - back);
            }
            due("digest() of eleven closings", paid(11).digest(), chained(due));
        });
    }

    public static void main(String[] args) {
        alone();
        until();
        foresee();
        advise();
        mean();
        digest();
        end();
    }
}
