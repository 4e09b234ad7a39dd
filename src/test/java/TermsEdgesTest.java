import java.io.IOException;
import java.lang.reflect.Method;
import java.nio.file.Files;
import java.nio.file.Path;
import java.util.Arrays;
import java.util.Set;
import java.util.regex.Matcher;
import java.util.regex.Pattern;

/** 'What it is', 'Terms' and 'Not promised': each sentence by a test of its own. */
public final class TermsEdgesTest extends Sentences {
    private static final int LOOK = 0;
    private static final int PUT = 1;
    private static final int ADD = 2;
    private static final int CARRY = 3;

    // ---- What it is.

    private static void calls() {
        holds("An object is used for at most 512 calls after it has been made", () -> {
            theLastCallStillChanges();
            theLastCallStillTells();
        });
        namesNoEdge("Optimists at a till.");
        namesNoEdge("what later calls answer is free.");
    }

    private static void theLastCallStillChanges() {
        TillOptimists x = new TillOptimists();
        for (int call = 1; call <= 511; call++) {
            x.pay(5, call);
        }
        due("pay(5, 0) as the 512th call", x.pay(5, 0), 511);
        x = new TillOptimists();
        for (int call = 1; call <= 511; call++) {
            x.pay(call % 6, call);
        }
        due("count(3) as the 512th call", x.count(3), 511);
        x = States.clerks(1);
        x.say(0, ADD, 0, 0, 1);
        for (int call = 3; call <= 509; call += 3) {
            turns(x, 0, 2);
            x.drop(0);
        }
        due("until() as call 510", x.until(), 2);
        due("call 511 is a step", x.pass(1), 0);
        due("call 512 closes", x.turn(0), 1);
    }

    private static void theLastCallStillTells() {
        for (Call asked : new Call[] {y -> y.until(), y -> y.foresee(50, 5), y -> y.alone(3, 7), y -> y.digest(),
            y -> y.advise(), y -> y.mean(), y -> y.closing(9, 2), y -> y.turn(6)}) {
            TillOptimists x = States.full();
            Object first = answer(x, asked);
            for (int call = States.CALLS_OF_FULL + 2; call <= 511; call++) {
                answer(x, asked);
            }
            due("the same call as the 512th", answer(x, asked), first);
        }
        TillOptimists x = States.midway();
        for (int call = States.CALLS_OF_MIDWAY + 1; call <= 511; call++) {
            answer(x, y -> y.pay(6, 1));
        }
        due("foresee(2, 5) as the 512th call", x.foresee(2, 5), States.midway().foresee(2, 5));
    }

    // ---- the till.

    private static void till() {
        holds("Till. It has n drawers, 1 to 8", () -> {
            for (int n = 1; n <= 8; n++) {
                TillOptimists x = States.tillWithClerks(n, 0);
                int drawers = n;
                due("count(0) of " + n, x.count(0), n);
                drawerIs(x, n - 1, 0, 0);
                throwing("drawer(" + n + ", 0) of " + n, x, INDEX, y -> y.drawer(drawers, 0));
            }
            refused("till(0)", States::bare, ARGUMENT, x -> x.till(0));
            refused("till(9)", States::bare, ARGUMENT, x -> x.till(9));
        });
        holds("(6, at first)", () -> {
            due("count(0) of a new object", new TillOptimists().count(0), 6);
            drawerIs(new TillOptimists(), 5, 0, 0);
            refused("drawer(6, 0) of a new object", States::bare, INDEX, x -> x.drawer(6, 0));
            due("till(2) on a new object", new TillOptimists().till(2), 6);
        });
        holds(", numbered from 0; each has an amount", () -> {
            TillOptimists x = States.tillWithClerks(8, 0);
            for (int d = 0; d < 8; d++) {
                x.pay(d, 10 + d);
            }
            for (int d = 0; d < 8; d++) {
                drawerIs(x, d, 10 + d, d + 1);
            }
            refused("drawer(-1, 0)", States::full, INDEX, y -> y.drawer(-1, 0));
        });
        amounts();
        seals();
    }

    private static void amounts() {
        holds(", 0 to 9999", () -> {
            TillOptimists x = new TillOptimists();
            x.pay(0, 9999);
            due("9999 in a drawer", x.drawer(0, 0), 9999);
            x.pay(0, 0);
            due("0 in a drawer", x.drawer(0, 0), 0);
            refused("pay(0, 10000)", States::midway, ARGUMENT, y -> y.pay(0, 10000));
            refused("pay(0, -1)", States::midway, ARGUMENT, y -> y.pay(0, -1));
            TillOptimists full = States.tillWithClerks(8, 0);
            for (int d = 0; d < 8; d++) {
                full.pay(d, 9999);
            }
            due("all amounts, each the greatest", full.count(5), 79992);
        });
        holds("(0, at first)", () -> {
            TillOptimists x = States.tillWithClerks(8, 0);
            for (int d = 0; d < 8; d++) {
                due("drawer(" + d + ", 0) at first", x.drawer(d, 0), 0);
            }
            for (int d = 0; d < 6; d++) {
                due("pay(" + d + ", 1) at first", new TillOptimists().pay(d, 1), 0);
            }
        });
    }

    private static void seals() {
        holds(", and a seal: the number of the closing that changed it the latest time", () -> {
            TillOptimists x = States.clerks(1);
            x.pay(0, 5);
            x.pay(1, 5);
            x.pay(0, 6);
            drawerIs(x, 0, 6, 3);
            drawerIs(x, 1, 5, 2);
            x.say(0, ADD, 1, 1, 1);
            turns(x, 0, 1);
            drawerIs(x, 1, 5, 2);
            turns(x, 0, 1);
            drawerIs(x, 1, 6, 4);
            drawerIs(x, 0, 6, 3);
        });
        holds(", 0 without any", () -> {
            TillOptimists x = States.clerks(1);
            due("seal of a drawer at first", x.drawer(5, 1), 0);
            x.pay(0, 5);
            due("seal of a drawer that no closing changed", x.drawer(5, 1), 0);
            x.say(0, LOOK, 5, 5, 0);
            turns(x, 0, 2);
            due("seal of a drawer that a closing has only read", x.drawer(5, 1), 0);
        });
        holds("Closings are numbered from 1", () -> {
            TillOptimists x = new TillOptimists();
            due("closings at first", x.count(3), 0);
            x.pay(3, 5);
            due("seal of the first closing", x.drawer(3, 1), 1);
            x = States.clerks(1);
            x.say(0, PUT, 3, 3, 5);
            turns(x, 0, 2);
            due("seal of a clerk's first closing", x.drawer(3, 1), 1);
            x.till(6);
            x.pay(3, 5);
            due("seal of the first closing on another till", x.drawer(3, 1), 1);
        });
        holds("there can be as many as there come", () -> {
            TillOptimists x = States.clerks(1);
            x.say(0, LOOK, 1, 1, 0);
            for (int number = 1; number <= 480; number++) {
                x.pay(number % 2, number);
            }
            due("count(3) behind 480 closings", x.count(3), 480);
            drawerIs(x, 0, 480, 480);
            drawerIs(x, 1, 479, 479);
            x.turn(0);
            slipIs(x, 0, 1, 479, 479, -1);
            due("close behind so many", x.turn(0), 1);
            due("count(3) behind 481 closings", x.count(3), 481);
        });
    }

    // ---- clerks.

    private static void clerks() {
        holds("Clerks. At most 6", () -> {
            for (int c = 0; c < 6; c++) {
                due("clerk()", States.clerks(c).clerk(), c);
            }
            due("count(1) of all", States.clerks(6).count(1), 6);
            refused("the seventh clerk()", () -> States.clerks(6), STATE, x -> x.clerk());
            refused("the seventh clerk() where all is full", States::full, STATE, x -> x.clerk());
        });
        holds(", numbered from 0; each has a program", () -> {
            due("the first clerk()", new TillOptimists().clerk(), 0);
            due("told(0, 0)", States.clerks(1).told(0, 0), 0);
            refused("told(1, 0) of one clerk", () -> States.clerks(1), INDEX, x -> x.told(1, 0));
            refused("told(-1, 0)", () -> States.clerks(1), INDEX, x -> x.told(-1, 0));
        });
        holds(" of at most 8 steps", () -> {
            TillOptimists x = States.clerks(1);
            for (int steps = 1; steps <= 8; steps++) {
                due("say", x.say(0, ADD, steps % 6, 0, steps), steps);
            }
            stepIs(x, 0, 7, ADD, 2, 0, 8);
            throwing("a ninth step", x, STATE, y -> y.say(0, ADD, 0, 0, 1));
            turns(x, 0, 8);
            due("the place behind eight steps", x.told(0, 1), 8);
            due("close behind eight steps", x.turn(0), 1);
            due("the first of them was done", x.drawer(1, 0), 8);
            due("the last of them was done", x.drawer(2, 0), 10);
        });
        holds(" (none, at first)", () -> {
            due("steps at first", States.clerks(6).told(5, 0), 0);
            refused("step(0, 0, 0) at first", () -> States.clerks(1), INDEX, x -> x.step(0, 0, 0));
            refused("turn(0) at first", () -> States.clerks(1), STATE, x -> x.turn(0));
        });
        holds(", a place in it, from 0", () -> {
            TillOptimists x = States.clerks(1);
            due("the place at first", x.told(0, 1), 0);
            x.say(0, PUT, 0, 0, 5);
            x.say(0, PUT, 1, 1, 6);
            due("the place ahead of the first step", x.told(0, 1), 0);
            x.turn(0);
            slipIs(x, 0, 0, -1, -1, 5);
            slipIs(x, 0, 1, -1, -1, -1);
        });
        holds(", and a slip, empty at first", () -> {
            TillOptimists x = States.tillWithClerks(8, 6);
            for (int c = 0; c < 6; c++) {
                slipIsEmpty(x, c);
            }
        });
        holds("; and is done, or not (not, at first).", () -> {
            TillOptimists x = States.clerks(2);
            due("told(1, 2) at first", x.told(1, 2), 0);
            x.say(1, LOOK, 0, 0, 0);
            due("told(1, 2) with a step", x.told(1, 2), 0);
            turns(x, 1, 1);
            due("told(1, 2) ahead of closing", x.told(1, 2), 0);
            turns(x, 1, 1);
            due("told(1, 2) behind closing", x.told(1, 2), 1);
            due("told(0, 2) of the other", x.told(0, 2), 0);
        });
    }

    // ---- slips.

    private static void slips() {
        holds("A slip has, for each drawer that was read from the till, the amount and the seal that it had then", () -> {
            TillOptimists x = States.tillWithClerks(8, 1);
            for (int d = 0; d < 8; d++) {
                x.say(0, LOOK, d, d, 0);
            }
            for (int d = 1; d < 8; d++) {
                x.pay(d, 100 * d);
            }
            for (int d = 0; d < 8; d++) {
                slipIs(x, 0, d, -1, -1, -1);
                x.turn(0);
                x.pay(d, 9);
            }
            slipIs(x, 0, 0, 0, 0, -1);
            for (int d = 1; d < 8; d++) {
                slipIs(x, 0, d, 100 * d, d, -1);
            }
            due("all drawers remembered", x.told(0, 4), 8);
        });
        holds("and for each drawer that was written on it, the own amount.", () -> {
            TillOptimists x = States.tillWithClerks(8, 1);
            for (int d = 0; d < 8; d++) {
                x.say(0, PUT, d, d, 3 * d);
            }
            for (int d = 0; d < 8; d++) {
                slipIs(x, 0, d, -1, -1, -1);
                x.turn(0);
            }
            for (int d = 0; d < 8; d++) {
                slipIs(x, 0, d, -1, -1, 3 * d);
                drawerIs(x, d, 0, 0);
            }
            due("all drawers written", x.told(0, 5), 8);
        });
        reading();
    }

    private static void reading() {
        holds("Reading a drawer: the own amount, if there is one on the slip", () -> {
            TillOptimists x = States.clerks(1);
            x.pay(0, 500);
            x.say(0, LOOK, 0, 0, 0);
            x.say(0, PUT, 0, 0, 0);
            x.say(0, ADD, 0, 0, 7);
            turns(x, 0, 3);
            slipIs(x, 0, 0, 500, 1, 7);
            x = States.clerks(1);
            x.pay(0, 500);
            x.say(0, PUT, 0, 0, 20);
            x.say(0, LOOK, 0, 0, 0);
            x.say(0, ADD, 0, 0, 7);
            x.turn(0);
            x.turn(0);
            slipIs(x, 0, 0, -1, -1, 20);
            x.turn(0);
            slipIs(x, 0, 0, -1, -1, 27);
        });
        holds("otherwise the amount remembered, if there is one", () -> {
            TillOptimists x = States.clerks(1);
            x.say(0, LOOK, 0, 0, 0);
            x.say(0, LOOK, 0, 0, 0);
            x.say(0, ADD, 0, 0, 7);
            x.turn(0);
            x.pay(0, 500);
            x.turn(0);
            slipIs(x, 0, 0, 0, 0, -1);
            x.turn(0);
            slipIs(x, 0, 0, 0, 0, 7);
        });
        holds("otherwise the drawer's own amount, which is remembered with its seal.", () -> {
            TillOptimists x = States.clerks(1);
            x.pay(0, 500);
            x.pay(0, 9999);
            x.say(0, ADD, 0, 0, -9);
            x.say(0, LOOK, 1, 1, 0);
            x.turn(0);
            slipIs(x, 0, 0, 9999, 2, 9990);
            x.turn(0);
            slipIs(x, 0, 1, 0, 0, -1);
            due("a drawer remembered with 0 and seal 0 counts", x.told(0, 4), 2);
        });
    }

    // ---- steps.

    private static TillOptimists behindSteps(int[] amounts, int[]... steps) {
        TillOptimists x = States.tillWithClerks(8, 1);
        for (int d = 0; d < amounts.length; d++) {
            x.pay(d, amounts[d]);
        }
        for (int[] s : steps) {
            x.say(0, s[0], s[1], s[2], s[3]);
        }
        turns(x, 0, steps.length);
        return x;
    }

    private static int[] step(int kind, int d, int e, int b) {
        return new int[] {kind, d, e, b};
    }

    private static int[] paid(int... of) {
        return of;
    }

    private static void steps() {
        holds("Steps. 0 look at d: it is read.", () -> {
            TillOptimists x = behindSteps(paid(3, 4), step(LOOK, 1, 0, 999), step(LOOK, 7, 0, -999));
            slipIs(x, 0, 1, 4, 2, -1);
            slipIs(x, 0, 7, 0, 0, -1);
            slipIs(x, 0, 0, -1, -1, -1);
            due("drawers written by looking", x.told(0, 5), 0);
        });
        holds("1 put b into d: the own amount of d is b.", () -> {
            TillOptimists x = behindSteps(paid(3, 4, 5), step(PUT, 0, 2, 0), step(PUT, 1, 2, 999),
                step(PUT, 1, 2, 998));
            slipIs(x, 0, 0, -1, -1, 0);
            slipIs(x, 0, 1, -1, -1, 998);
            slipIs(x, 0, 2, -1, -1, -1);
            due("a drawer written with 0 counts", x.told(0, 5), 2);
            due("drawers remembered by putting", x.told(0, 4), 0);
        });
        holds("2 add b to d: d is read, its own amount is what was read, and b, ", () -> {
            TillOptimists x = behindSteps(paid(50, 0, 2000), step(ADD, 0, 2, 0), step(ADD, 1, 2, 999),
                step(ADD, 2, 0, -999));
            slipIs(x, 0, 0, 50, 1, 50);
            slipIs(x, 0, 1, 0, 2, 999);
            slipIs(x, 0, 2, 2000, 3, 1001);
        });
        holds("held at 0 and 9999.", () -> {
            TillOptimists x = behindSteps(paid(9000, 9000, 9001, 9999, 999, 998, 0, 1),
                step(ADD, 0, 0, 998), step(ADD, 1, 1, 999), step(ADD, 2, 2, 999), step(ADD, 3, 3, 1),
                step(ADD, 4, 4, -999), step(ADD, 5, 5, -999), step(ADD, 6, 6, -1), step(ADD, 7, 7, -1));
            int[] want = {9998, 9999, 9999, 9999, 0, 0, 0, 0};
            for (int d = 0; d < 8; d++) {
                due("the own amount of " + d, x.slip(0, d, 2), want[d]);
            }
        });
        carrying();
    }

    private static void carrying() {
        holds("3 carry b from d to e: d is read; if that is b or more, ", () -> {
            for (int b : new int[] {1, 500, 999}) {
                TillOptimists x = behindSteps(paid(b - 1, 40), step(CARRY, 0, 1, b));
                slipIs(x, 0, 0, b - 1, 1, -1);
                slipIs(x, 0, 1, -1, -1, -1);
                x = behindSteps(paid(b, 40), step(CARRY, 0, 1, b));
                slipIs(x, 0, 0, b, 1, 0);
                slipIs(x, 0, 1, 40, 2, 40 + b);
                x = behindSteps(paid(b + 1, 40), step(CARRY, 0, 1, b));
                slipIs(x, 0, 0, b + 1, 1, 1);
                slipIs(x, 0, 1, 40, 2, 40 + b);
            }
        });
        holds("e is read as well, ", () -> {
            TillOptimists x = behindSteps(paid(50, 7), step(CARRY, 0, 1, 5), step(CARRY, 0, 7, 5));
            slipIs(x, 0, 1, 7, 2, 12);
            slipIs(x, 0, 7, 0, 0, 5);
            x.pay(7, 0);
            due("what was carried to a drawer that was changed since", x.turn(0), 2);
        });
        holds("the own amount of d is what was read of it, less b, that of e what was read of it, and b, ", () -> {
            TillOptimists x = behindSteps(paid(50, 7), step(PUT, 0, 0, 30), step(PUT, 1, 1, 100),
                step(CARRY, 0, 1, 30));
            slipIs(x, 0, 0, -1, -1, 0);
            slipIs(x, 0, 1, -1, -1, 130);
            x = behindSteps(paid(9999, 9000), step(CARRY, 0, 1, 999), step(CARRY, 1, 0, 999));
            slipIs(x, 0, 0, 9999, 1, 9999);
            slipIs(x, 0, 1, 9000, 2, 9000);
        });
        holds("held at 9999; ", () -> {
            int[][] cases = {{9000, 998, 9998}, {9000, 999, 9999}, {9001, 999, 9999}, {9999, 1, 9999}};
            for (int[] c : cases) {
                TillOptimists x = behindSteps(paid(2000, c[0]), step(CARRY, 0, 1, c[1]));
                slipIs(x, 0, 0, 2000, 1, 2000 - c[1]);
                slipIs(x, 0, 1, c[0], 2, c[2]);
            }
        });
        holds("if it is less, nothing more happens.", () -> {
            TillOptimists x = behindSteps(paid(998, 7), step(CARRY, 0, 1, 999));
            slipIs(x, 0, 0, 998, 1, -1);
            slipIs(x, 0, 1, -1, -1, -1);
            due("the place behind it", x.told(0, 1), 1);
            x.pay(1, 8);
            due("close, as e was not read", x.turn(0), 1);
            closingIs(x, 0, 0, 0, 1006);
            x = behindSteps(paid(998, 7), step(PUT, 0, 0, 4), step(CARRY, 0, 1, 5), step(CARRY, 0, 1, 4));
            slipIs(x, 0, 0, -1, -1, 0);
            slipIs(x, 0, 1, 7, 2, 11);
        });
    }

    // ---- turns and rounds.

    private static void turnsOfClerks() {
        holds("A turn of a clerk who is not done and has a step at least: ", () -> {
            refused("turn of one without steps", () -> States.clerks(1), STATE, x -> x.turn(0));
            refused("turn of one who is done", States::midway, STATE, x -> x.turn(2));
            TillOptimists x = States.least();
            due("turn of one with one step", x.turn(0), 0);
        });
        holds("if the place is that of a step, this is done, and the place is 1 greater.", () -> {
            TillOptimists x = States.tillWithClerks(8, 1);
            for (int p = 0; p < 8; p++) {
                x.say(0, PUT, p, p, 50 + p);
            }
            for (int p = 0; p < 8; p++) {
                due("told(0, 1)", x.told(0, 1), p);
                due("told(0, 5)", x.told(0, 5), p);
                due("turn(0) at " + p, x.turn(0), 0);
                slipIs(x, 0, p, -1, -1, 50 + p);
            }
            due("told(0, 1) behind the last one", x.told(0, 1), 8);
            due("no closing by then", x.count(3), 0);
        });
        closing();
        losing();
        rounds();
    }

    private static TillOptimists behindEightLooks() {
        TillOptimists x = States.tillWithClerks(8, 2);
        for (int d = 0; d < 8; d++) {
            x.say(0, LOOK, d, d, 0);
        }
        turns(x, 0, 8);
        return x;
    }

    private static void closing() {
        holds("If it is behind the last one, the clerk closes, if each drawer remembered on the slip still has the seal"
            + " that is remembered: ", () -> {
                due("nothing changed", behindEightLooks().turn(0), 1);
                for (int d = 0; d < 8; d++) {
                    TillOptimists x = behindEightLooks();
                    x.pay(d, 0);
                    due("drawer " + d + " alone changed, to the same amount", x.turn(0), 2);
                }
                TillOptimists x = behindEightLooks();
                x.say(1, PUT, 7, 7, 5);
                turns(x, 1, 2);
                due("the last drawer changed by another clerk", x.turn(0), 2);
                x = behindSteps(paid(9), step(PUT, 0, 0, 4));
                x.pay(0, 10);
                due("nothing remembered, and what it writes changed", x.turn(0), 1);
                x = behindSteps(paid(9), step(LOOK, 0, 0, 0));
                x.pay(1, 10);
                due("what it does not remember changed", x.turn(0), 1);
            });
        holds("the number of closings is 1 greater, ", () -> {
            TillOptimists x = behindSteps(paid(9, 8), step(LOOK, 0, 0, 0));
            x.turn(0);
            due("count(3) behind a closing that writes nothing", x.count(3), 3);
            x = behindSteps(paid(), step(PUT, 0, 0, 1), step(PUT, 1, 1, 1));
            x.turn(0);
            due("count(3) behind a closing that writes two drawers", x.count(3), 1);
        });
        holds("each drawer that is written on the slip gets its own amount, ", () -> {
            TillOptimists x = behindSteps(paid(5, 5, 5, 5, 5, 5, 5, 5), step(PUT, 0, 0, 0), step(PUT, 7, 7, 999),
                step(LOOK, 3, 3, 0));
            drawerIs(x, 0, 5, 1);
            x.turn(0);
            int[] want = {0, 5, 5, 5, 5, 5, 5, 999};
            for (int d = 0; d < 8; d++) {
                due("drawer(" + d + ", 0)", x.drawer(d, 0), want[d]);
            }
        });
        holds("and has this closing as its seal (also if the amount is the same); ", () -> {
            TillOptimists x = behindSteps(paid(5, 0, 7), step(ADD, 0, 0, 0), step(PUT, 1, 1, 0),
                step(LOOK, 2, 2, 0));
            x.turn(0);
            drawerIs(x, 0, 5, 4);
            drawerIs(x, 1, 0, 4);
            drawerIs(x, 2, 7, 3);
            drawerIs(x, 7, 0, 0);
        });
        holds("the clerk is done, its slip stays.", () -> {
            TillOptimists x = behindSteps(paid(5, 6), step(ADD, 0, 0, 1), step(PUT, 7, 7, 0), step(LOOK, 1, 1, 0));
            x.turn(0);
            toldIs(x, 0, 3, 3, 1, 0, 2, 2, 0);
            slipIs(x, 0, 0, 5, 1, 6);
            slipIs(x, 0, 1, 6, 2, -1);
            slipIs(x, 0, 7, -1, -1, 0);
            x.pay(0, 9);
            slipIs(x, 0, 0, 5, 1, 6);
        });
    }

    private static void losing() {
        holds("Otherwise it has lost a go: its slip is empty, its place 0.", () -> {
            TillOptimists x = behindSteps(paid(5, 6), step(ADD, 0, 0, 1), step(PUT, 7, 7, 3), step(LOOK, 1, 1, 0));
            x.pay(1, 7);
            x.turn(0);
            toldIs(x, 0, 3, 0, 0, 1, 0, 0, 0);
            slipIsEmpty(x, 0);
            countIs(x, 8, 1, 0, 3, 1, 12, 0);
            drawerIs(x, 0, 5, 1);
            drawerIs(x, 7, 0, 0);
            turns(x, 0, 3);
            slipIs(x, 0, 1, 7, 3, -1);
            due("close at the second go", x.turn(0), 1);
            due("goes lost behind it", x.told(0, 3), 1);
        });
    }

    private static void rounds() {
        holds("A round: one turn of each clerk", () -> {
            TillOptimists x = States.clerks(6);
            for (int c = 0; c < 6; c++) {
                x.say(c, PUT, 0, 0, c);
                x.say(c, PUT, 0, 0, c);
            }
            for (int round = 1; round <= 2; round++) {
                x.pass(1);
                for (int c = 0; c < 6; c++) {
                    due("told(" + c + ", 1) behind " + round, x.told(c, 1), round);
                }
            }
            due("who closes in the third round", x.pass(1), 6);
            TillOptimists one = States.least();
            one.turn(0);
            one.pay(0, 5);
            one.pass(1);
            due("a clerk who lost in a round has had its turn", one.told(0, 1), 0);
        });
        holds(" who is not done and has a step at least, ", () -> {
            TillOptimists x = States.clerks(5);
            for (int c : new int[] {1, 3}) {
                x.say(c, PUT, c, c, 7);
            }
            turns(x, 1, 2);
            x.pass(1);
            toldIs(x, 0, 0, 0, 0, 0, 0, 0, 0);
            toldIs(x, 1, 1, 1, 1, 0, 0, 1, 0);
            toldIs(x, 3, 1, 1, 0, 0, 0, 1, 0);
            toldIs(x, 4, 0, 0, 0, 0, 0, 0, 0);
            due("closings behind the next round", x.pass(1), 1);
            due("rounds without anyone", x.pass(50), 0);
            due("closings at the end", x.count(3), 2);
        });
        holds("by numbers.", () -> {
            TillOptimists x = States.clerks(6);
            for (int c = 0; c < 6; c++) {
                x.say(c, PUT, 0, 0, 100 + c);
            }
            x.pass(2);
            drawerIs(x, 0, 105, 6);
            for (int back = 0; back < 6; back++) {
                closingIs(x, back, 5 - back, 1, 105 - back);
            }
        });
    }

    // ---- what every method keeps to.

    private static void refusals() {
        holds("A method that throws an exception changes nothing.", () -> {
            Made[] states = {States::bare, States::least, States::midway, States::full};
            for (Made state : states) {
                refused("till(0)", state, ARGUMENT, x -> x.till(0));
                refused("pay(8, 1)", state, INDEX, x -> x.pay(8, 1));
                refused("pay(0, 10000)", state, ARGUMENT, x -> x.pay(0, 10000));
                refused("say(6, 0, 0, 0, 0)", state, INDEX, x -> x.say(6, 0, 0, 0, 0));
                refused("turn(6)", state, INDEX, x -> x.turn(6));
                refused("drop(6)", state, INDEX, x -> x.drop(6));
                refused("pass(0)", state, ARGUMENT, x -> x.pass(0));
                refused("pass(51)", state, ARGUMENT, x -> x.pass(51));
                refused("drawer(8, 0)", state, INDEX, x -> x.drawer(8, 0));
                refused("told(6, 0)", state, INDEX, x -> x.told(6, 0));
                refused("slip(6, 0, 0)", state, INDEX, x -> x.slip(6, 0, 0));
                refused("step(6, 0, 0)", state, INDEX, x -> x.step(6, 0, 0));
                refused("closing(10, 0)", state, INDEX, x -> x.closing(10, 0));
                refused("clash(6, 0)", state, INDEX, x -> x.clash(6, 0));
                refused("count(7)", state, INDEX, x -> x.count(7));
                refused("alone(6, 0)", state, INDEX, x -> x.alone(6, 0));
                refused("foresee(0, 2)", state, ARGUMENT, x -> x.foresee(0, 2));
                refused("foresee(50, 7)", state, INDEX, x -> x.foresee(50, 7));
            }
            refused("the seventh clerk()", States::full, STATE, x -> x.clerk());
            refused("say(0, 0, 0, 0, 1000)", States::least, ARGUMENT, x -> x.say(0, 0, 0, 0, 1000));
            refused("a ninth step", States::full, STATE, x -> x.say(0, 0, 0, 0, 0));
            refused("turn of one who is done", States::full, STATE, x -> x.turn(5));
        });
        holds("If several exceptions apply, the one that is named first is thrown.", () -> {
            refused("pay(8, 10000)", States::full, INDEX, x -> x.pay(8, 10000));
            refused("say: no clerk, and b is wrong", States::full, INDEX, x -> x.say(6, 0, 0, 0, 1000));
            refused("say: no kind, and b is wrong", States::full, INDEX, x -> x.say(0, 4, 0, 0, 1000));
            refused("say: no drawer d, and b is wrong", States::full, INDEX, x -> x.say(0, 1, 8, 0, -1));
            refused("say: no drawer, and d is e", States::full, INDEX, x -> x.say(0, 3, 8, 8, 1));
            refused("say: no drawer e, and a ninth step", States::full, INDEX, x -> x.say(0, 0, 0, 8, 0));
            refused("say: all of it", States::full, INDEX, x -> x.say(5, 3, -1, -1, 0));
            refused("say: d is e, and a ninth step", States::full, ARGUMENT, x -> x.say(0, 3, 1, 1, 1));
            refused("say: b is wrong, and it is done", States::midway, ARGUMENT, x -> x.say(2, 1, 1, 1, -1));
            refused("say: b is wrong, and it is at work", States::midway, ARGUMENT, x -> x.say(0, 3, 0, 1, 0));
            refused("foresee(0, 7)", States::full, ARGUMENT, x -> x.foresee(0, 7));
            refused("foresee(51, 1)", States::full, ARGUMENT, x -> x.foresee(51, 1));
        });
    }

    // ---- the whole of it.

    private static void story() {
        holds("Clerks work on drawers without locking them: each has a program, step by step, and a slip on which"
            + " it remembers what it read and writes what it would change; ", () -> {
                TillOptimists x = twoAtOneDrawer();
                due("the first one's step", x.turn(0), 0);
                due("the second one's step at the same drawer", x.turn(1), 0);
                due("pay(2, 8) while both are at work", x.pay(2, 8), 7);
                slipIs(x, 0, 2, 7, 1, 17);
                slipIs(x, 1, 2, 7, 1, 3);
                due("told(0, 1)", x.told(0, 1), 1);
                drawerIs(x, 2, 8, 2);
            });
        holds("in the end it closes, if nothing that it read has been changed meanwhile, and all that it wrote comes"
            + " into the drawers at once; ", () -> {
                TillOptimists x = twoAtOneDrawer();
                turns(x, 1, 2);
                drawerIs(x, 2, 7, 1);
                drawerIs(x, 3, 0, 0);
                due("close", x.turn(1), 1);
                drawerIs(x, 2, 3, 2);
                drawerIs(x, 3, 4, 2);
            });
        holds("otherwise it has lost, and begins again; ", () -> {
            TillOptimists x = twoAtOneDrawer();
            x.turn(0);
            turns(x, 1, 3);
            due("close behind the other one", x.turn(0), 2);
            drawerIs(x, 2, 3, 2);
            toldIs(x, 0, 1, 0, 0, 1, 0, 0, 0);
            due("its step once more", x.turn(0), 0);
            slipIs(x, 0, 2, 3, 2, 13);
            due("close at last", x.turn(0), 1);
            drawerIs(x, 2, 13, 3);
        });
        whatIsTold();
    }

    /** 7 in drawer 2; clerk 0 adds 10 there, clerk 1 carries 4 of it to drawer 3 and looks at that. */
    private static TillOptimists twoAtOneDrawer() {
        TillOptimists x = States.clerks(2);
        x.pay(2, 7);
        x.say(0, ADD, 2, 2, 10);
        x.say(1, CARRY, 2, 3, 4);
        x.say(1, LOOK, 3, 3, 0);
        return x;
    }

    private static void whatIsTold() {
        holds("and it is told what is in drawers and on slips, who would lose, who would make whom lose, what was"
            + " closed, what a clerk would do alone, how rounds go by, and who had best close first.", () -> {
                TillOptimists x = twoAtOneDrawer();
                x.turn(0);
                x.turn(1);
                drawerIs(x, 2, 7, 1);
                slipIs(x, 1, 3, 0, 0, 4);
                due("clash(0, 1)", x.clash(0, 1), true);
                due("clash(1, 0)", x.clash(1, 0), true);
                due("advise()", x.advise(), 0);
                x.turn(1);
                due("advise() when clerk 1 is further", x.advise(), 1);
                x.turn(1);
                due("told(0, 6)", x.told(0, 6), 1);
                due("count(6)", x.count(6), 1);
                closingIs(x, 0, 1, 2, 7);
                due("alone(0, 2)", x.alone(0, 2), 13);
                due("until()", x.until(), 3);
                due("foresee(3, 5)", x.foresee(3, 5), 17);
            });
        holds("All numbers are whole.", () -> {
            int answers = 0;
            for (Method m : TillOptimists.class.getMethods()) {
                if (m.getDeclaringClass() == TillOptimists.class) {
                    answers++;
                    boolean counted = Set.of(int.class, long.class, boolean.class).contains(m.getReturnType());
                    due(m.getName() + " answers no whole number", !counted, m.getName().equals("mean"));
                    due(m.getName() + " takes whole numbers",
                        Set.of(int.class).containsAll(Arrays.asList(m.getParameterTypes())), true);
                }
            }
            due("methods", answers, 20);
        });
    }

    private static void headings() {
        heading("Ahead of the calls till, pay the interface says: ---- the till.");
        heading("Ahead of the calls clerk, say, turn, drop, pass the interface says: ---- clerks.");
        heading("Ahead of the calls drawer, told, slip, step, closing, clash, count the interface says: ---- what"
            + " there is.");
        heading("Ahead of the calls alone, until, foresee, advise, mean, digest the interface says: ---- what would"
            + " be.");
    }

    /** The source has these calls, and no others, between this heading and the next one. */
    private static void heading(String words) {
        holds(words, () -> {
            String calls = words.substring("Ahead of the calls ".length(), words.indexOf(" the interface"));
            String title = words.substring(words.indexOf("----"));
            String found = "nothing";
            for (String part : source().split("(?m)^ *// (?=----)")) {
                if (part.startsWith(title + "\n")) {
                    found = "";
                    Matcher m = Pattern.compile("(?m)^    public \\w+ (\\w+)\\(").matcher(part);
                    while (m.find()) {
                        found += (found.isEmpty() ? "" : ", ") + m.group(1);
                    }
                }
            }
            due("the source behind \"" + title + "\"", found, calls);
        });
    }

    private static String source() {
        try {
            return Files.readString(Path.of("src", "main", "java", "TillOptimists.java"));
        } catch (IOException e) {
            return "the source cannot be read: " + e;
        }
    }

    // ---- Not promised.

    private static void notPromised() {
        holds("Nothing is promised beyond the answers and state changes described above, and nothing about an object"
            + " after its 512th call.", () -> {
                for (Made state : new Made[] {States::bare, States::least, States::midway, States::full}) {
                    TillOptimists x = state.make();
                    TillOptimists other = state.make();
                    States.full();
                    due("one object beside another", Told.all(() -> state.make()), Told.all(state));
                    x.pay(0, 77);
                    x.pass(3);
                    due("an object that others were used beside", other.digest(), state.make().digest());
                }
            });
        namesNoEdge("How the state is held inside the object is free, as are the speed of each call, the text of"
            + " toString and the behaviour of equals and hashCode.");
        namesNoEdge("Use of one object from several threads at once is not promised to be safe.");
    }

    public static void main(String[] args) {
        in("What it is");
        calls();
        in("The public face");
        in("Terms");
        till();
        clerks();
        slips();
        steps();
        turnsOfClerks();
        refusals();
        story();
        headings();
        in("Not promised");
        notPromised();
        end();
    }
}
