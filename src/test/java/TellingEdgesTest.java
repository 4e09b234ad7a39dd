/** Promises 9 to 15: each sentence by a test of its own. */
public final class TellingEdgesTest extends Sentences {
    private static final int LOOK = 0;
    private static final int PUT = 1;
    private static final int ADD = 2;
    private static final int CARRY = 3;

    private static final Made[] STATES = {States::bare, States::least, States::midway, States::full};

    /** Asking this changes nothing, wherever it is asked. */
    private static void onlyTells(String call, Call asked) {
        for (Made state : STATES) {
            changesNothing(call, state, asked);
        }
    }

    // ---- drawer.

    private static void drawers() {
        in("Promise 9");
        holds("- drawer: a drawer", () -> {
            TillOptimists x = States.tillWithClerks(8, 0);
            x.pay(0, 3);
            x.pay(7, 4);
            due("drawer(0, 0)", x.drawer(0, 0), 3);
            due("drawer(7, 0)", x.drawer(7, 0), 4);
        });
        holds("- what: 0 its amount", () -> {
            TillOptimists x = new TillOptimists();
            for (int amount : new int[] {0, 9999, 1, 0}) {
                x.pay(5, amount);
                due("drawer(5, 0)", x.drawer(5, 0), amount);
            }
        });
        holds(", 1 its seal", () -> {
            TillOptimists x = new TillOptimists();
            due("drawer(5, 1) without any closing", x.drawer(5, 1), 0);
            for (int number = 1; number <= 12; number++) {
                x.pay(number % 2, 8);
            }
            due("drawer(0, 1)", x.drawer(0, 1), 12);
            due("drawer(1, 1)", x.drawer(1, 1), 11);
            due("drawer(2, 1)", x.drawer(2, 1), 0);
        });
        holds(", 2 clerks who are not done and remember it", () -> drawerCounts(LOOK, 2));
        holds(", 3 clerks who are not done and have written it", () -> drawerCounts(PUT, 3));
        holds("Returns this.", () -> {
            TillOptimists x = States.midway();
            Object[] want = {100, 1, 1, 1};
            for (int what = 0; what < 4; what++) {
                due("drawer(0, " + what + ")", x.drawer(0, what), want[what]);
                int w = what;
                onlyTells("drawer(0, " + what + ")", y -> y.drawer(0, w));
            }
        });
        drawersRefused();
    }

    private static void drawerCounts(int kind, int what) {
        TillOptimists x = States.clerks(6);
        for (int c = 0; c < 6; c++) {
            x.say(c, kind, 5, 5, 0);
        }
        due("drawer(5, " + what + ") at first", x.drawer(5, what), 0);
        for (int c = 0; c < 6; c++) {
            x.turn(c);
            due("drawer(5, " + what + ") of " + (c + 1), x.drawer(5, what), c + 1);
        }
        due("drawer(4, " + what + ") of another", x.drawer(4, what), 0);
        due("the other count", x.drawer(5, 5 - what), 0);
        x.turn(0);
        due("drawer(5, " + what + ") with one done", x.drawer(5, what), 5);
        x.drop(3);
        due("drawer(5, " + what + ") with one dropped", x.drawer(5, what), 4);
        x.pay(5, 1);
        due("drawer(5, " + what + ") though they would lose", x.drawer(5, what), 4);
        x.pass(1);
        due("drawer(5, " + what + ") behind closing or losing", x.drawer(5, what), 1);
        x.pass(3);
        due("drawer(5, " + what + ") with all done", x.drawer(5, what), 0);
    }

    private static void drawersRefused() {
        holds("Throws IndexOutOfBoundsException if there is no such drawer", () -> {
            for (int what = 0; what < 4; what++) {
                int w = what;
                refusedWith("drawer(#, " + what + ") of 6", States::bare, INDEX, (x, d) -> x.drawer(d, w), -1, 6);
                refusedWith("drawer(#, " + what + ") of 1", States::least, INDEX, (x, d) -> x.drawer(d, w), -1, 1);
                refusedWith("drawer(#, " + what + ") of 8", States::full, INDEX, (x, d) -> x.drawer(d, w), -1, 8, LOW,
                    HIGH);
            }
        });
        holds("what is not 0 to 3", () -> {
            for (Made state : STATES) {
                refusedWith("drawer(0, #)", state, INDEX, (x, w) -> x.drawer(0, w), -1, 4, LOW, HIGH);
            }
            refusedWith("drawer(7, #)", States::full, INDEX, (x, w) -> x.drawer(7, w), -1, 4);
        });
    }

    // ---- told.

    private static void clerksTold() {
        in("Promise 10");
        holds("- clerk: a clerk", () -> {
            TillOptimists x = States.clerks(6);
            x.say(0, LOOK, 0, 0, 0);
            x.say(5, LOOK, 0, 0, 0);
            x.say(5, LOOK, 0, 0, 0);
            due("told(0, 0)", x.told(0, 0), 1);
            due("told(5, 0)", x.told(5, 0), 2);
            due("told(3, 0)", x.told(3, 0), 0);
        });
        holds("- what: 0 steps of the program, 1 the place", () -> {
            TillOptimists x = States.clerks(1);
            for (int steps = 0; steps <= 8; steps++) {
                due("told(0, 0)", x.told(0, 0), steps);
                answer(x, y -> y.say(0, PUT, 0, 0, 0));
            }
            for (int place = 0; place <= 8; place++) {
                due("told(0, 1)", x.told(0, 1), place);
                x.turn(0);
            }
            due("told(0, 1) of one who is done", x.told(0, 1), 8);
            due("told(0, 0) of one who is done", x.told(0, 0), 8);
        });
        holds(", 2 1 if it is done, else 0", () -> {
            TillOptimists x = States.least();
            due("told(0, 2)", x.told(0, 2), 0);
            x.turn(0);
            due("told(0, 2) behind the last step", x.told(0, 2), 0);
            x.turn(0);
            due("told(0, 2) behind closing", x.told(0, 2), 1);
            x.drop(0);
            due("told(0, 2) behind drop", x.told(0, 2), 0);
        });
        holds(", 3 goes that it lost", () -> {
            TillOptimists x = States.least();
            for (int lost = 0; lost < 120; lost++) {
                due("told(0, 3)", x.told(0, 3), lost);
                x.turn(0);
                x.pay(0, 0);
                x.turn(0);
            }
            x.pass(2);
            due("told(0, 3) of one who is done", x.told(0, 3), 120);
        });
        toldOfSlips();
        holds(", 6 1 if it is not done and would lose, if it closed now, else 0", () -> wouldLose());
        toldRefused();
    }

    private static void toldOfSlips() {
        holds(", 4 drawers remembered", () -> slipCounts(LOOK, 4));
        holds(", 5 drawers written on its slip", () -> slipCounts(PUT, 5));
    }

    private static void slipCounts(int kind, int what) {
        TillOptimists x = States.tillWithClerks(8, 1);
        for (int d = 0; d < 8; d++) {
            x.say(0, kind, d, d, 0);
        }
        for (int d = 0; d < 8; d++) {
            due("told(0, " + what + ") behind " + d, x.told(0, what), d);
            x.turn(0);
        }
        due("told(0, " + what + ") of all", x.told(0, what), 8);
        due("told(0, " + (9 - what) + ")", x.told(0, 9 - what), 0);
        x.turn(0);
        due("told(0, " + what + ") of one who is done", x.told(0, what), 8);
        x.drop(0);
        due("told(0, " + what + ") behind drop", x.told(0, what), 0);
        x.turn(0);
        due("told(0, " + what + ") behind one", x.told(0, what), 1);
        x.drop(0);
        TillOptimists twice = States.clerks(1);
        twice.say(0, kind, 3, 3, 5);
        twice.say(0, kind, 3, 3, 6);
        turns(twice, 0, 2);
        due("told(0, " + what + ") of one drawer twice", twice.told(0, what), 1);
    }

    private static void wouldLose() {
        TillOptimists x = States.tillWithClerks(8, 1);
        due("told(0, 6) without steps", x.told(0, 6), 0);
        x.say(0, LOOK, 7, 7, 0);
        x.say(0, PUT, 1, 1, 0);
        x.pay(7, 0);
        due("told(0, 6) at first", x.told(0, 6), 0);
        x.turn(0);
        due("told(0, 6) behind a look", x.told(0, 6), 0);
        x.pay(7, 0);
        due("told(0, 6) in the midst of a program", x.told(0, 6), 1);
        x.turn(0);
        due("told(0, 6) at the end of a program", x.told(0, 6), 1);
        x.turn(0);
        due("told(0, 6) behind losing", x.told(0, 6), 0);
        turns(x, 0, 2);
        x.pay(1, 5);
        due("told(0, 6), what it only writes changed", x.told(0, 6), 0);
        x.turn(0);
        x.pay(7, 0);
        due("told(0, 6) of one who is done", x.told(0, 6), 0);
    }

    private static void toldRefused() {
        holds("Returns this.", () -> {
            TillOptimists x = States.full();
            toldIs(x, 0, 8, 1, 0, 1, 1, 0, 0);
            toldIs(x, 5, 8, 8, 1, 0, 6, 6, 0);
            for (int what = 0; what < 7; what++) {
                int w = what;
                onlyTells("told(0, " + what + ")", y -> y.told(0, w));
            }
        });
        holds("Throws IndexOutOfBoundsException if there is no such clerk", () -> {
            for (int what = 0; what < 7; what++) {
                int w = what;
                refusedWith("told(#, " + what + ") of none", States::bare, INDEX, (x, c) -> x.told(c, w), -1, 0);
                refusedWith("told(#, " + what + ") of one", States::least, INDEX, (x, c) -> x.told(c, w), -1, 1);
                refusedWith("told(#, " + what + ") of six", States::full, INDEX, (x, c) -> x.told(c, w), -1, 6, LOW,
                    HIGH);
            }
        });
        holds("what is not 0 to 6", () -> {
            refusedWith("told(0, #) of one", States::least, INDEX, (x, w) -> x.told(0, w), -1, 7, LOW, HIGH);
            refusedWith("told(5, #) of six", States::full, INDEX, (x, w) -> x.told(5, w), -1, 7, LOW, HIGH);
        });
    }

    // ---- slip.

    private static void slips() {
        in("Promise 11");
        holds("- clerk: a clerk - drawer: a drawer", () -> {
            TillOptimists x = States.tillWithClerks(8, 6);
            x.pay(0, 3);
            x.pay(7, 4);
            x.say(0, ADD, 7, 7, 1);
            x.say(5, ADD, 0, 0, 1);
            x.pass(1);
            slipIs(x, 0, 7, 4, 2, 5);
            slipIs(x, 5, 0, 3, 1, 4);
            slipIs(x, 0, 0, -1, -1, -1);
            slipIs(x, 5, 7, -1, -1, -1);
        });
        holds("- what: of its slip for this drawer: 0 the amount remembered", () -> {
            for (int amount : new int[] {0, 1, 9999}) {
                due("slip(0, 5, 0) of " + amount, seen(amount).slip(0, 5, 0), amount);
            }
            TillOptimists x = seen(7);
            x.pay(5, 8);
            due("slip(0, 5, 0) of what was changed since", x.slip(0, 5, 0), 7);
        });
        holds(", 1 the seal remembered", () -> {
            TillOptimists x = States.clerks(1);
            x.say(0, LOOK, 5, 5, 0);
            x.turn(0);
            due("slip(0, 5, 1) without any closing", x.slip(0, 5, 1), 0);
            x = seen(7);
            due("slip(0, 5, 1)", x.slip(0, 5, 1), 1);
            x.pay(5, 8);
            due("slip(0, 5, 1) of what was changed since", x.slip(0, 5, 1), 1);
        });
        holds(", 2 the own amount", () -> {
            for (int own : new int[] {0, 1, 9999}) {
                TillOptimists x = States.clerks(1);
                x.pay(5, 5000);
                for (int i = 0; i < 6; i++) {
                    x.say(0, ADD, 5, 5, own == 9999 ? 999 : -999);
                }
                x.say(0, ADD, 5, 5, own == 1 ? 1 : 0);
                turns(x, 0, 7);
                due("slip(0, 5, 2) of " + own, x.slip(0, 5, 2), own);
                x.turn(0);
                due("slip(0, 5, 2) of one who is done", x.slip(0, 5, 2), own);
            }
        });
        slipsWithout();
        slipsRefused();
    }

    /** A clerk who has looked at drawer 5 with this amount. */
    private static TillOptimists seen(int amount) {
        TillOptimists x = States.clerks(1);
        x.say(0, LOOK, 5, 5, 0);
        x.pay(5, amount);
        x.turn(0);
        return x;
    }

    private static void slipsWithout() {
        holds("; -1 if there is none", () -> {
            slipIsEmpty(States.tillWithClerks(8, 6), 5);
            slipIs(seen(7), 0, 5, 7, 1, -1);
            slipIs(seen(7), 0, 4, -1, -1, -1);
            TillOptimists x = States.clerks(1);
            x.say(0, PUT, 5, 5, 0);
            x.turn(0);
            slipIs(x, 0, 5, -1, -1, 0);
            x.drop(0);
            slipIs(x, 0, 5, -1, -1, -1);
        });
        holds("Returns this.", () -> {
            slipIs(States.midway(), 0, 0, 100, 1, 70);
            for (int what = 0; what < 3; what++) {
                int w = what;
                onlyTells("slip(0, 0, " + what + ")", y -> y.slip(0, 0, w));
            }
        });
    }

    private static void slipsRefused() {
        holds("Throws IndexOutOfBoundsException if there is no such clerk or drawer", () -> {
            for (int what = 0; what < 3; what++) {
                int w = what;
                refusedWith("slip(#, 0, " + what + ") of none", States::bare, INDEX, (x, c) -> x.slip(c, 0, w), -1, 0);
                refusedWith("slip(#, 0, " + what + ") of one", States::least, INDEX, (x, c) -> x.slip(c, 0, w), -1, 1);
                refusedWith("slip(#, 0, " + what + ") of six", States::full, INDEX, (x, c) -> x.slip(c, 0, w), -1, 6,
                    LOW, HIGH);
                refusedWith("slip(0, #, " + what + ") of one", States::least, INDEX, (x, d) -> x.slip(0, d, w), -1, 1);
                refusedWith("slip(0, #, " + what + ") midway", States::midway, INDEX, (x, d) -> x.slip(0, d, w), -1, 6);
                refusedWith("slip(5, #, " + what + ") of 8", States::full, INDEX, (x, d) -> x.slip(5, d, w), -1, 8, LOW,
                    HIGH);
            }
        });
        holds("what is not 0 to 2", () -> {
            refusedWith("slip(0, 0, #)", States::least, INDEX, (x, w) -> x.slip(0, 0, w), -1, 3, LOW, HIGH);
            refusedWith("slip(5, 7, #)", States::full, INDEX, (x, w) -> x.slip(5, 7, w), -1, 3, LOW, HIGH);
        });
    }

    // ---- step.

    private static void steps() {
        in("Promise 12");
        holds("- clerk: a clerk - place: a place in its program", () -> {
            TillOptimists x = States.full();
            for (int c = 0; c < 6; c++) {
                for (int i = 0; i < 8; i++) {
                    int d = (c + i) % 8;
                    stepIs(x, c, i, (c + i) % 4, d, (d + 3) % 8, 11 * i + c + 1);
                }
            }
        });
        holds("- what: of the step there: 0 its kind", () -> {
            for (int kind = 0; kind < 4; kind++) {
                due("step(0, 0, 0)", said(kind, 0, 1, 1).step(0, 0, 0), kind);
            }
        });
        holds(", 1 its drawer d", () -> {
            due("step(0, 0, 1)", said(CARRY, 0, 5, 1).step(0, 0, 1), 0);
            due("step(0, 0, 1)", said(CARRY, 5, 0, 1).step(0, 0, 1), 5);
        });
        holds(", 2 its drawer e", () -> {
            for (int kind = 0; kind < 4; kind++) {
                due("step(0, 0, 2) of kind " + kind, said(kind, 5, 0, 1).step(0, 0, 2), 0);
                due("step(0, 0, 2) of kind " + kind, said(kind, 0, 5, 1).step(0, 0, 2), 5);
            }
        });
        holds(", 3 its number b", () -> {
            for (int b : new int[] {-999, 0, 999}) {
                due("step(0, 0, 3) of a look", said(LOOK, 0, 0, b).step(0, 0, 3), b);
                due("step(0, 0, 3) of an add", said(ADD, 0, 0, b).step(0, 0, 3), b);
            }
            due("step(0, 0, 3) of a put", said(PUT, 0, 0, 0).step(0, 0, 3), 0);
            due("step(0, 0, 3) of a carry", said(CARRY, 0, 1, 999).step(0, 0, 3), 999);
        });
        holds("Returns this.", () -> {
            for (int what = 0; what < 4; what++) {
                int w = what;
                onlyTells("step(0, 0, " + what + ")", y -> y.step(0, 0, w));
            }
            stepIs(States.midway(), 2, 0, PUT, 2, 2, 17);
        });
        stepsRefused();
    }

    private static TillOptimists said(int kind, int d, int e, int b) {
        TillOptimists x = States.clerks(1);
        x.say(0, kind, d, e, b);
        return x;
    }

    private static void stepsRefused() {
        holds("Throws IndexOutOfBoundsException if there is no such clerk or step", () -> {
            for (int what = 0; what < 4; what++) {
                int w = what;
                refusedWith("step(#, 0, " + what + ") of none", States::bare, INDEX, (x, c) -> x.step(c, 0, w), -1, 0);
                refusedWith("step(#, 0, " + what + ") of one", States::least, INDEX, (x, c) -> x.step(c, 0, w), -1, 1);
                refusedWith("step(#, 0, " + what + ") of six", States::full, INDEX, (x, c) -> x.step(c, 0, w), -1, 6,
                    LOW, HIGH);
                refusedWith("step(1, #, " + what + ") of none", States::midway, INDEX, (x, p) -> x.step(1, p, w), -1, 0);
                refusedWith("step(0, #, " + what + ") of one", States::least, INDEX, (x, p) -> x.step(0, p, w), -1, 1);
                refusedWith("step(5, #, " + what + ") of 8", States::full, INDEX, (x, p) -> x.step(5, p, w), -1, 8, LOW,
                    HIGH);
            }
            refused("step(0, 0, 0) behind another till", () -> {
                TillOptimists x = States.full();
                x.till(6);
                x.clerk();
                return x;
            }, INDEX, x -> x.step(0, 0, 0));
        });
        holds("what is not 0 to 3", () -> {
            refusedWith("step(0, 0, #)", States::least, INDEX, (x, w) -> x.step(0, 0, w), -1, 4, LOW, HIGH);
            refusedWith("step(5, 7, #)", States::full, INDEX, (x, w) -> x.step(5, 7, w), -1, 4, LOW, HIGH);
        });
    }

    // ---- closing.

    /** So many closings by hand, the first one with the amount 1, and so on. */
    private static TillOptimists paid(int closings) {
        TillOptimists x = States.clerks(2);
        for (int i = 1; i <= closings; i++) {
            x.pay(0, i);
        }
        return x;
    }

    private static void closings() {
        in("Promise 13");
        holds("- back: which closing: 0 the latest one, 1 that ahead of it, and so on", () -> {
            for (int closings : new int[] {1, 2, 9, 10, 11, 12, 25, 300}) {
                TillOptimists x = paid(closings);
                for (int back = 0; back < 10 && back < closings; back++) {
                    closingIs(x, back, -1, 1, closings - back);
                }
            }
        });
        holds(", at most 9", () -> {
            due("the oldest of ten", paid(10).closing(9, 2), 1);
            due("the oldest that is kept of eleven", paid(11).closing(9, 2), 2);
            due("the oldest that is kept of thirty", paid(30).closing(9, 2), 21);
            refused("closing(10, 0) of eleven", () -> paid(11), INDEX, x -> x.closing(10, 0));
            refused("closing(10, 0) of thirty", () -> paid(30), INDEX, x -> x.closing(10, 0));
        });
        closingWhats();
        closingsRefused();
    }

    private static void closingWhats() {
        holds("- what: 0 the clerk who closed, -1 by hand", () -> {
            TillOptimists x = States.clerks(6);
            for (int c = 5; c >= 0; c--) {
                x.say(c, LOOK, 0, 0, 0);
                turns(x, c, 2);
                due("closing(0, 0)", x.closing(0, 0), c);
            }
            x.pay(0, 0);
            due("closing(0, 0) by hand", x.closing(0, 0), -1);
            for (int c = 0; c < 6; c++) {
                due("closing(" + (c + 1) + ", 0)", x.closing(c + 1, 0), c);
            }
        });
        holds(", 1 how many drawers were written by it", () -> {
            for (int written = 0; written <= 8; written++) {
                TillOptimists x = States.tillWithClerks(8, 1);
                for (int d = 0; d < 8; d++) {
                    x.say(0, d < written ? PUT : LOOK, d, d, 0);
                }
                turns(x, 0, 9);
                due("closing(0, 1)", x.closing(0, 1), written);
                x.pay(0, 0);
                due("closing(0, 1) by hand", x.closing(0, 1), 1);
                due("closing(1, 1)", x.closing(1, 1), written);
            }
        });
        holds(", 2 all amounts added, as they were behind it", () -> {
            TillOptimists x = States.tillWithClerks(8, 1);
            x.pay(0, 0);
            due("closing(0, 2) of nothing", x.closing(0, 2), 0);
            for (int d = 0; d < 8; d++) {
                x.pay(d, 9999);
            }
            due("closing(0, 2) of the greatest", x.closing(0, 2), 79992);
            due("closing(1, 2)", x.closing(1, 2), 69993);
            due("closing(8, 2), as it was behind it", x.closing(8, 2), 0);
            x.say(0, PUT, 0, 0, 1);
            x.say(0, PUT, 7, 7, 2);
            turns(x, 0, 3);
            due("closing(0, 2) by a clerk", x.closing(0, 2), 59997);
        });
        holds("Returns this.", () -> {
            closingIs(States.midway(), 0, 2, 1, 10116);
            closingIs(States.midway(), 1, -1, 1, 10099);
            for (int what = 0; what < 3; what++) {
                int w = what;
                onlyTells("closing(0, " + what + ")", y -> y.closing(0, w));
            }
        });
    }

    private static void closingsRefused() {
        holds("Throws IndexOutOfBoundsException if back is not 0 to 9", () -> {
            for (int what = 0; what < 3; what++) {
                int w = what;
                refusedWith("closing(#, " + what + ") of 13", States::full, INDEX, (x, b) -> x.closing(b, w), -1, 10, 11,
                    12, LOW, HIGH);
                refusedWith("closing(#, " + what + ") of 3", States::midway, INDEX, (x, b) -> x.closing(b, w), -1, 10);
            }
        });
        holds("there is no such closing", () -> {
            refusedWith("closing(#, 0) of none", States::bare, INDEX, (x, b) -> x.closing(b, 0), 0, 1, 9);
            refusedWith("closing(#, 2) of none", States::least, INDEX, (x, b) -> x.closing(b, 2), 0, 1, 9);
            for (int closings = 1; closings <= 9; closings++) {
                int n = closings;
                due("the oldest of " + n, paid(n).closing(n - 1, 2), 1);
                refusedWith("closing(#, 1) of " + n, () -> paid(n), INDEX, (x, b) -> x.closing(b, 1), n);
            }
            refused("closing(0, 0) behind another till", () -> {
                TillOptimists x = paid(12);
                x.till(6);
                return x;
            }, INDEX, x -> x.closing(0, 0));
        });
        holds("what is not 0 to 2", () -> {
            refusedWith("closing(0, #)", States::midway, INDEX, (x, w) -> x.closing(0, w), -1, 3, LOW, HIGH);
            refusedWith("closing(9, #)", States::full, INDEX, (x, w) -> x.closing(9, w), -1, 3, LOW, HIGH);
        });
    }

    // ---- clash.

    /** Clerk 0 has written the last drawer, clerk 1 remembers it; neither more. */
    private static TillOptimists clashing(int clerks) {
        TillOptimists x = States.tillWithClerks(8, clerks);
        x.say(0, PUT, 7, 7, 1);
        x.say(1, LOOK, 7, 7, 0);
        x.turn(0);
        x.turn(1);
        return x;
    }

    private static void clashes() {
        in("Promise 14");
        holds("- a: a clerk - b: a clerk", () -> {
            TillOptimists x = States.clerks(6);
            x.say(5, PUT, 0, 0, 1);
            x.say(0, LOOK, 0, 0, 0);
            x.pass(1);
            for (int a = 0; a < 6; a++) {
                for (int b = 0; b < 6; b++) {
                    due("clash(" + a + ", " + b + ")", x.clash(a, b), a == 5 && b == 0);
                }
            }
        });
        holds("Returns whether the second one, not done, ", () -> {
            TillOptimists x = clashing(2);
            due("clash(0, 1)", x.clash(0, 1), true);
            x.turn(1);
            due("clash(0, 1), the second one done", x.clash(0, 1), false);
        });
        holds("remembers a drawer that the first one", () -> {
            due("clash(1, 0), by the wrong way", clashing(2).clash(1, 0), false);
            for (int written = 0; written < 8; written++) {
                for (int read = 0; read < 8; read += 7) {
                    TillOptimists x = States.tillWithClerks(8, 2);
                    x.say(0, PUT, written, written, 1);
                    x.say(1, LOOK, read, read, 0);
                    x.pass(1);
                    due("written " + written + ", remembered " + read, x.clash(0, 1), written == read);
                }
            }
            TillOptimists x = States.clerks(2);
            x.say(0, PUT, 2, 2, 0);
            x.say(1, PUT, 2, 2, 0);
            x.pass(1);
            due("clash(0, 1), written by both", x.clash(0, 1), false);
        });
        holds(", not done, has written ", () -> {
            TillOptimists x = clashing(2);
            x.turn(0);
            due("clash(0, 1), the first one done", x.clash(0, 1), false);
            x = States.clerks(2);
            x.say(0, LOOK, 2, 2, 0);
            x.say(1, LOOK, 2, 2, 0);
            due("clash(0, 1), empty slips", x.clash(0, 1), false);
            x.pass(1);
            due("clash(0, 1), only read by both", x.clash(0, 1), false);
            x = clashing(2);
            x.drop(0);
            due("clash(0, 1), the first one dropped", x.clash(0, 1), false);
        });
        clashesAnswered();
    }

    private static void clashesAnswered() {
        holds("(false for the same one).", () -> {
            TillOptimists x = States.clerks(6);
            for (int c = 0; c < 6; c++) {
                x.say(c, ADD, 0, 0, 1);
            }
            x.pass(1);
            for (int c = 0; c < 6; c++) {
                due("clash(" + c + ", " + c + ")", x.clash(c, c), false);
                due("clash with the next", x.clash(c, (c + 1) % 6), true);
            }
            onlyTells("clash(0, 0)", y -> y.clash(0, 0));
            onlyTells("clash(0, 1)", y -> y.clash(0, 1));
        });
        holds("Throws IndexOutOfBoundsException if there is no such clerk", () -> {
            refusedWith("clash(#, 0) of none", States::bare, INDEX, (x, c) -> x.clash(c, 0), -1, 0);
            refusedWith("clash(#, 0) of one", States::least, INDEX, (x, c) -> x.clash(c, 0), -1, 1);
            refusedWith("clash(0, #) of one", States::least, INDEX, (x, c) -> x.clash(0, c), -1, 1);
            refusedWith("clash(#, 0) of six", States::full, INDEX, (x, c) -> x.clash(c, 0), -1, 6, LOW, HIGH);
            refusedWith("clash(5, #) of six", States::full, INDEX, (x, c) -> x.clash(5, c), -1, 6, LOW, HIGH);
            refusedWith("clash(#, #) of six", States::full, INDEX, (x, c) -> x.clash(c, c), -1, 6, LOW, HIGH);
        });
    }

    // ---- count.

    private static void counts() {
        in("Promise 15");
        holds("- what: 0 drawers", () -> {
            for (int n = 1; n <= 8; n++) {
                due("count(0)", States.tillWithClerks(n, 0).count(0), n);
            }
        });
        holds(", 1 clerks", () -> {
            for (int clerks = 0; clerks <= 6; clerks++) {
                due("count(1)", States.clerks(clerks).count(1), clerks);
            }
        });
        holds(", 2 clerks who are done", () -> {
            TillOptimists x = States.clerks(6);
            due("count(2) of none with steps", x.count(2), 0);
            for (int c = 0; c < 6; c++) {
                x.say(c, PUT, 0, 0, 0);
                x.turn(c);
                due("count(2) ahead of closing", x.count(2), c);
                x.turn(c);
                due("count(2) behind closing", x.count(2), c + 1);
            }
            x.drop(3);
            due("count(2) behind drop", x.count(2), 5);
        });
        holds(", 3 closings", () -> {
            for (int closings : new int[] {0, 1, 9, 10, 11, 400}) {
                due("count(3)", paid(closings).count(3), closings);
            }
            due("count(3) by hand and by clerks", States.full().count(3), 13);
        });
        countsOfClerks();
        countsRefused();
    }

    private static void countsOfClerks() {
        holds(", 4 goes lost by all", () -> {
            TillOptimists x = States.clerks(6);
            due("count(4) at first", x.count(4), 0);
            for (int c = 0; c < 6; c++) {
                x.say(c, LOOK, 0, 0, 0);
            }
            for (int go = 1; go <= 20; go++) {
                x.pass(1);
                x.pay(0, 0);
                x.pass(1);
                due("count(4)", x.count(4), 6 * go);
            }
            x.pass(2);
            x.drop(0);
            due("count(4) with all done but one", x.count(4), 120);
        });
        holds(", 5 all amounts, added", () -> {
            due("count(5) at first", new TillOptimists().count(5), 0);
            TillOptimists x = States.tillWithClerks(8, 0);
            for (int d = 0; d < 8; d++) {
                x.pay(d, 9999);
                due("count(5)", x.count(5), 9999 * (d + 1));
            }
            x.pay(0, 0);
            due("count(5)", x.count(5), 69993);
        });
        holds(", 6 clerks who are not done and would lose, if they closed now", () -> {
            TillOptimists x = States.clerks(6);
            for (int c = 0; c < 6; c++) {
                x.say(c, LOOK, c / 3, 0, 0);
            }
            due("count(6) at first", x.count(6), 0);
            x.pass(1);
            due("count(6) with nothing changed", x.count(6), 0);
            x.pay(0, 0);
            due("count(6) with one drawer changed", x.count(6), 3);
            x.pay(1, 0);
            due("count(6) with all changed", x.count(6), 6);
            x.turn(0);
            due("count(6) behind losing", x.count(6), 5);
            turns(x, 0, 2);
            x.pay(0, 0);
            due("count(6) with one done", x.count(6), 5);
        });
    }

    private static void countsRefused() {
        holds("Returns this.", () -> {
            countIs(States.midway(), 6, 4, 1, 3, 0, 10116, 1);
            for (int what = 0; what < 7; what++) {
                int w = what;
                onlyTells("count(" + what + ")", y -> y.count(w));
            }
        });
        holds("Throws IndexOutOfBoundsException if what is not 0 to 6", () -> {
            for (Made state : STATES) {
                refusedWith("count(#)", state, INDEX, (x, w) -> x.count(w), -1, 7, LOW, HIGH);
            }
        });
    }

    public static void main(String[] args) {
        drawers();
        clerksTold();
        slips();
        steps();
        closings();
        clashes();
        counts();
        end();
    }
}
