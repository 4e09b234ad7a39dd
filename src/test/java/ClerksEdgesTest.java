/** Promises 4 to 8: each sentence by a test of its own. */
public final class ClerksEdgesTest extends Sentences {
    private static final int LOOK = 0;
    private static final int PUT = 1;
    private static final int ADD = 2;
    private static final int CARRY = 3;

    private static TillOptimists oneClerk() {
        return States.clerks(1);
    }

    // ---- clerk.

    private static void newClerk() {
        in("Promise 4");
        holds("Returns the number of a new clerk.", () -> {
            TillOptimists x = States.tillWithClerks(1, 0);
            for (int c = 0; c < 6; c++) {
                due("clerk()", x.clerk(), c);
                due("count(1)", x.count(1), c + 1);
                toldIs(x, c, 0, 0, 0, 0, 0, 0, 0);
            }
            x = States.midway();
            due("clerk() beside others at work", x.clerk(), 4);
            toldIs(x, 4, 0, 0, 0, 0, 0, 0, 0);
            slipIsEmpty(x, 4);
        });
        holds("Throws IllegalStateException if there are 6", () -> {
            due("clerk() if there are 5", States.clerks(5).clerk(), 5);
            refused("clerk()", () -> States.clerks(6), STATE, x -> x.clerk());
            refused("clerk() where all is full", States::full, STATE, x -> x.clerk());
            TillOptimists x = States.full();
            x.till(6);
            due("clerk() on another till", x.clerk(), 0);
        });
    }

    // ---- say.

    private static void saying() {
        in("Promise 5");
        holds("Adds a step to the end of a program.", () -> {
            TillOptimists x = States.tillWithClerks(8, 6);
            for (int p = 0; p < 8; p++) {
                x.say(5, p % 4, p, 7 - p, 10 + p);
                stepIs(x, 5, p, p % 4, p, 7 - p, 10 + p);
                stepIs(x, 5, 0, 0, 0, 7, 10);
            }
            due("steps of another", x.told(0, 0), 0);
            due("steps of one more", x.told(4, 0), 0);
        });
        sayArguments();
        holds("Returns how many steps the program has then.", () -> {
            TillOptimists x = States.clerks(2);
            for (int steps = 1; steps <= 8; steps++) {
                due("say", x.say(1, LOOK, 0, 0, 0), steps);
            }
            due("say to another", x.say(0, LOOK, 0, 0, 0), 1);
        });
        sayIndexes();
        sayNumbers();
        sayStates();
    }

    private static void sayArguments() {
        holds("- clerk: the clerk", () -> {
            TillOptimists x = States.clerks(6);
            due("say(0, ..)", x.say(0, LOOK, 0, 0, 0), 1);
            due("say(5, ..)", x.say(5, LOOK, 0, 0, 0), 1);
            due("say(5, ..) again", x.say(5, LOOK, 0, 0, 0), 2);
            due("told(0, 0)", x.told(0, 0), 1);
        });
        holds("- kind: what the step does", () -> {
            for (int kind = 0; kind < 4; kind++) {
                TillOptimists x = oneClerk();
                x.pay(2, 50);
                x.say(0, kind, 2, 3, 20);
                stepIs(x, 0, 0, kind, 2, 3, 20);
                x.turn(0);
                slipIs(x, 0, 2, kind == PUT ? -1 : 50, kind == PUT ? -1 : 1, new int[] {-1, 20, 70, 30}[kind]);
                due("the own amount of e", x.slip(0, 3, 2), kind == CARRY ? 20 : -1);
            }
        });
        holds("- d: its drawer d", () -> {
            for (int d : new int[] {0, 7}) {
                TillOptimists x = States.tillWithClerks(8, 1);
                x.say(0, PUT, d, 3, 20);
                x.turn(0);
                due("the own amount of " + d, x.slip(0, d, 2), 20);
                due("step(0, 0, 1)", x.step(0, 0, 1), d);
            }
        });
        holds("- e: its drawer e; of no meaning, but that it has to be one, for other kinds than 3", () -> {
            for (int kind = 0; kind < 3; kind++) {
                for (int e = 0; e < 6; e++) {
                    TillOptimists x = oneClerk();
                    due("say of kind " + kind + " with e " + e, x.say(0, kind, 2, e, 5), 1);
                    due("step(0, 0, 2)", x.step(0, 0, 2), e);
                    x.turn(0);
                    due("drawers remembered and written", x.told(0, 4) + x.told(0, 5), kind == ADD ? 2 : 1);
                }
                int k = kind;
                refusedWith("say of kind " + kind + " with e #", ClerksEdgesTest::oneClerk, INDEX,
                    (x, e) -> x.say(0, k, 2, e, 5), -1, 6);
            }
        });
        holds("- b: its number b", () -> {
            for (int b : new int[] {-999, -1, 0, 1, 999}) {
                TillOptimists x = oneClerk();
                x.pay(0, 1000);
                x.say(0, ADD, 0, 0, b);
                due("step(0, 0, 3)", x.step(0, 0, 3), b);
                x.turn(0);
                due("the own amount", x.slip(0, 0, 2), 1000 + b);
            }
        });
    }

    private static void sayIndexes() {
        holds("Throws IndexOutOfBoundsException if there is no such clerk", () -> {
            refusedWith("say(#, ..) of none", States::bare, INDEX, (x, c) -> x.say(c, 0, 0, 0, 0), -1, 0, 1);
            refusedWith("say(#, ..) of one", States::least, INDEX, (x, c) -> x.say(c, 0, 0, 0, 0), -1, 1, 5);
            refusedWith("say(#, ..) of six", States::full, INDEX, (x, c) -> x.say(c, 0, 0, 0, 0), -1, 6, LOW, HIGH);
            refusedWith("say(#, .., 1000)", States::full, INDEX, (x, c) -> x.say(c, 3, 1, 1, 1000), -1, 6);
        });
        holds("kind is not 0 to 3", () -> {
            due("kind 0", oneClerk().say(0, 0, 0, 1, 1), 1);
            due("kind 3", oneClerk().say(0, 3, 0, 1, 1), 1);
            refusedWith("say(0, #, ..)", States::least, INDEX, (x, k) -> x.say(0, k, 0, 0, 0), -1, 4, LOW, HIGH);
            refusedWith("say(0, #, .., 1000)", States::least, INDEX, (x, k) -> x.say(0, k, 0, 0, 1000), -1, 4);
            refusedWith("say(0, #, ..) to a full one", States::full, INDEX, (x, k) -> x.say(0, k, 0, 0, 0), -1, 4);
        });
        holds("d or e is no drawer", () -> {
            int[][] tills = {{1, 0}, {6, 5}, {8, 7}};
            for (int[] t : tills) {
                Made state = () -> States.tillWithClerks(t[0], 1);
                for (int kind = 0; kind < 4; kind++) {
                    int k = kind;
                    due("the least and the greatest drawer, " + kind, state.make().say(0, kind == 3 ? 0 : kind, 0, t[1], 1),
                        1);
                    refusedWith("d #, kind " + kind, state, INDEX, (x, d) -> x.say(0, k, d, 0, 1), -1, t[0], LOW, HIGH);
                    refusedWith("e #, kind " + kind, state, INDEX, (x, e) -> x.say(0, k, 0, e, 1), -1, t[0], LOW, HIGH);
                    refusedWith("d and e #, kind " + kind, state, INDEX, (x, d) -> x.say(0, k, d, d, 1000), -1, t[0]);
                }
            }
            refusedWith("e # to a full one", States::full, INDEX, (x, e) -> x.say(0, 0, 0, e, 0), -1, 8);
        });
    }

    private static void sayNumbers() {
        holds("Throws IllegalArgumentException if b is not -999 to 999", () -> {
            for (int kind : new int[] {LOOK, ADD}) {
                due("b -999, kind " + kind, oneClerk().say(0, kind, 0, 1, -999), 1);
                due("b 999, kind " + kind, oneClerk().say(0, kind, 0, 1, 999), 1);
            }
            due("b 999, kind 1", oneClerk().say(0, PUT, 0, 1, 999), 1);
            due("b 999, kind 3", oneClerk().say(0, CARRY, 0, 1, 999), 1);
            for (int kind = 0; kind < 4; kind++) {
                int k = kind;
                refusedWith("say(0, " + kind + ", 0, 1, #)", ClerksEdgesTest::oneClerk, ARGUMENT,
                    (x, b) -> x.say(0, k, 0, 1, b), -1000, 1000, LOW, HIGH);
            }
        });
        holds("is less than 0 for the kind 1", () -> {
            due("put 0", oneClerk().say(0, PUT, 0, 0, 0), 1);
            refusedWith("put #", ClerksEdgesTest::oneClerk, ARGUMENT, (x, b) -> x.say(0, PUT, 0, 0, b), -1, -999);
            due("look -1", oneClerk().say(0, LOOK, 0, 0, -1), 1);
            due("add -1", oneClerk().say(0, ADD, 0, 0, -1), 1);
        });
        holds("less than 1 for the kind 3", () -> {
            due("carry 1", oneClerk().say(0, CARRY, 0, 1, 1), 1);
            refusedWith("carry #", ClerksEdgesTest::oneClerk, ARGUMENT, (x, b) -> x.say(0, CARRY, 0, 1, b), 0, -1, -999);
            due("look 0", oneClerk().say(0, LOOK, 0, 1, 0), 1);
            due("put 0", oneClerk().say(0, PUT, 0, 1, 0), 1);
            due("add 0", oneClerk().say(0, ADD, 0, 1, 0), 1);
        });
        holds("d is e for the kind 3", () -> {
            refusedWith("carry from # to itself", ClerksEdgesTest::oneClerk, ARGUMENT,
                (x, d) -> x.say(0, CARRY, d, d, 1), 0, 5);
            refused("carry in a till of one drawer", States::least, ARGUMENT, x -> x.say(0, CARRY, 0, 0, 1));
            for (int kind = 0; kind < 3; kind++) {
                due("d is e for the kind " + kind, oneClerk().say(0, kind, 5, 5, 1), 1);
            }
            due("carry to the next", oneClerk().say(0, CARRY, 5, 4, 1), 1);
        });
    }

    private static void sayStates() {
        holds("Throws IllegalStateException if the clerk is done", () -> {
            refused("say to one who is done", States::midway, STATE, x -> x.say(2, LOOK, 0, 0, 0));
            refused("say to one who is done with eight steps", States::full, STATE, x -> x.say(5, LOOK, 0, 0, 0));
            TillOptimists x = States.midway();
            x.drop(2);
            due("say to one who was done", x.say(2, LOOK, 0, 0, 0), 2);
        });
        holds("its place is not 0", () -> {
            Made state = () -> {
                TillOptimists x = oneClerk();
                x.say(0, LOOK, 0, 0, 0);
                x.say(0, LOOK, 0, 0, 0);
                return x;
            };
            due("say at place 0", state.make().say(0, LOOK, 0, 0, 0), 3);
            for (int place = 1; place <= 2; place++) {
                int turns = place;
                refused("say at place " + place, () -> {
                    TillOptimists x = state.make();
                    turns(x, 0, turns);
                    return x;
                }, STATE, x -> x.say(0, LOOK, 0, 0, 0));
            }
            TillOptimists x = state.make();
            turns(x, 0, 2);
            x.pay(0, 1);
            x.turn(0);
            due("say behind a go lost", x.say(0, LOOK, 0, 0, 0), 3);
            x.turn(0);
            x.drop(0);
            due("say behind drop", x.say(0, LOOK, 0, 0, 0), 4);
        });
        holds("the program has 8 steps", () -> {
            Made state = () -> {
                TillOptimists x = States.clerks(2);
                for (int i = 0; i < 7; i++) {
                    x.say(1, ADD, 0, 0, i);
                }
                return x;
            };
            due("the eighth step", state.make().say(1, ADD, 5, 5, 7), 8);
            refused("the ninth step", () -> {
                TillOptimists x = state.make();
                x.say(1, ADD, 5, 5, 7);
                return x;
            }, STATE, x -> x.say(1, ADD, 4, 4, 9));
        });
    }

    // ---- turn.

    private static void turning() {
        in("Promise 6");
        holds("Lets a clerk have a turn.", () -> {
            TillOptimists x = States.clerks(6);
            for (int c = 0; c < 6; c++) {
                x.say(c, PUT, c, c, 5);
            }
            x.turn(5);
            due("told(5, 1)", x.told(5, 1), 1);
            for (int c = 0; c < 5; c++) {
                due("told(" + c + ", 1) of another", x.told(c, 1), 0);
            }
        });
        holds("- clerk: the clerk", () -> {
            for (int c : new int[] {0, 5}) {
                TillOptimists x = States.clerks(6);
                x.say(c, PUT, 1, 1, 5);
                turns(x, c, 2);
                closingIs(x, 0, c, 1, 5);
            }
        });
        holds("Returns 0 if a step was done", () -> {
            TillOptimists x = States.tillWithClerks(8, 1);
            for (int i = 0; i < 8; i++) {
                x.say(0, i % 4, i, 7 - i, 1);
            }
            x.pay(0, 1);
            for (int i = 0; i < 8; i++) {
                due("turn(0) at " + i, x.turn(0), 0);
            }
        });
        holds(", 1 if it closed", () -> {
            TillOptimists x = States.least();
            x.turn(0);
            due("turn(0) behind the last step", x.turn(0), 1);
            due("told(0, 2)", x.told(0, 2), 1);
        });
        holds(", 2 if it lost.", () -> {
            TillOptimists x = States.least();
            x.turn(0);
            x.pay(0, 0);
            due("turn(0) with what was changed", x.turn(0), 2);
            due("told(0, 3)", x.told(0, 3), 1);
            due("told(0, 2)", x.told(0, 2), 0);
        });
        turnRefused();
    }

    private static void turnRefused() {
        holds("Throws IndexOutOfBoundsException if there is no such clerk", () -> {
            refusedWith("turn(#) of none", States::bare, INDEX, (x, c) -> x.turn(c), -1, 0, 1, LOW, HIGH);
            refusedWith("turn(#) of one", States::least, INDEX, (x, c) -> x.turn(c), -1, 1, 5);
            refusedWith("turn(#) of six", States::full, INDEX, (x, c) -> x.turn(c), -1, 6, LOW, HIGH);
        });
        holds("Throws IllegalStateException if it is done", () -> {
            refused("turn(2) of one who is done", States::midway, STATE, x -> x.turn(2));
            refused("turn(5) of one who is done", States::full, STATE, x -> x.turn(5));
            TillOptimists x = States.midway();
            x.drop(2);
            due("turn(2) behind drop", x.turn(2), 0);
        });
        holds("has no steps", () -> {
            refused("turn(1) of one without steps", States::midway, STATE, x -> x.turn(1));
            refused("turn(5) of one without steps", () -> States.clerks(6), STATE, x -> x.turn(5));
            TillOptimists x = States.midway();
            x.say(1, LOOK, 0, 0, 0);
            due("turn(1) with one step", x.turn(1), 0);
        });
    }

    // ---- drop.

    /** A clerk of three steps who remembers drawer 0 and writes the drawers 0 and 7, behind so many turns. */
    private static TillOptimists behindTurns(int howMany) {
        TillOptimists x = States.tillWithClerks(8, 1);
        x.pay(0, 40);
        x.say(0, LOOK, 0, 0, 0);
        x.say(0, ADD, 0, 0, 2);
        x.say(0, PUT, 7, 7, 9);
        turns(x, 0, howMany);
        return x;
    }

    private static void dropping() {
        in("Promise 7");
        holds("Lets a clerk give up what it does: its slip is empty", () -> {
            for (int turns = 0; turns <= 4; turns++) {
                TillOptimists x = behindTurns(turns);
                x.drop(0);
                slipIsEmpty(x, 0);
                due("steps of the program", x.told(0, 0), 3);
            }
            TillOptimists x = behindTurns(4);
            x.drop(0);
            drawerIs(x, 0, 42, 2);
            drawerIs(x, 7, 9, 2);
            closingIs(x, 0, 0, 2, 51);
        });
        holds(", its place 0", () -> {
            for (int turns = 0; turns <= 4; turns++) {
                TillOptimists x = behindTurns(turns);
                x.drop(0);
                due("told(0, 1) behind " + turns, x.told(0, 1), 0);
                due("turn(0) behind drop", x.turn(0), 0);
                slipIs(x, 0, 0, turns == 4 ? 42 : 40, turns == 4 ? 2 : 1, -1);
            }
        });
        holds(", and it is not done ", () -> {
            TillOptimists x = behindTurns(4);
            due("told(0, 2) ahead of drop", x.told(0, 2), 1);
            x.drop(0);
            due("told(0, 2)", x.told(0, 2), 0);
            due("count(2)", x.count(2), 0);
            turns(x, 0, 3);
            due("close once more", x.turn(0), 1);
            drawerIs(x, 0, 44, 3);
        });
        holds("(this is no go lost).", () -> {
            TillOptimists x = behindTurns(3);
            x.pay(0, 1);
            x.drop(0);
            due("told(0, 3) behind drop of one who would lose", x.told(0, 3), 0);
            turns(x, 0, 3);
            x.pay(0, 1);
            x.turn(0);
            x.turn(0);
            x.drop(0);
            due("told(0, 3), one lost ahead of drop", x.told(0, 3), 1);
            due("count(4)", x.count(4), 1);
        });
        dropAnswers();
    }

    private static void dropAnswers() {
        holds("- clerk: the clerk", () -> {
            TillOptimists x = States.clerks(6);
            for (int c = 0; c < 6; c++) {
                x.say(c, PUT, c, c, 5);
                x.turn(c);
            }
            x.drop(0);
            x.drop(5);
            for (int c = 0; c < 6; c++) {
                due("told(" + c + ", 1)", x.told(c, 1), c == 0 || c == 5 ? 0 : 1);
            }
        });
        holds("Returns how many steps it had done", () -> {
            for (int turns = 0; turns <= 3; turns++) {
                due("drop(0) behind " + turns, behindTurns(turns).drop(0), turns);
            }
            TillOptimists x = behindTurns(3);
            x.pay(0, 1);
            x.turn(0);
            due("drop(0) behind a go lost", x.drop(0), 0);
            due("drop(0) of one without steps", oneClerk().drop(0), 0);
            due("drop(0) twice", x.drop(0), 0);
        });
        holds(", those of the program if it was done.", () -> {
            due("drop(0) of one who was done", behindTurns(4).drop(0), 3);
            due("drop(0) of one who was done with one step", closed(States.least()).drop(0), 1);
            due("drop(5) of one who was done with eight steps", States.full().drop(5), 8);
        });
        holds("Throws IndexOutOfBoundsException if there is no such clerk", () -> {
            refusedWith("drop(#) of none", States::bare, INDEX, (x, c) -> x.drop(c), -1, 0, 1, LOW, HIGH);
            refusedWith("drop(#) of one", States::least, INDEX, (x, c) -> x.drop(c), -1, 1, 5);
            refusedWith("drop(#) of six", States::full, INDEX, (x, c) -> x.drop(c), -1, 6, LOW, HIGH);
        });
    }

    private static TillOptimists closed(TillOptimists x) {
        x.pass(2);
        return x;
    }

    // ---- pass.

    private static void passing() {
        in("Promise 8");
        holds("Lets rounds go by.", () -> {
            TillOptimists x = States.full();
            x.pass(7);
            TillOptimists byTurns = States.full();
            for (int round = 0; round < 7; round++) {
                for (int c = 0; c < 6; c++) {
                    int clerk = c;
                    answer(byTurns, y -> y.turn(clerk));
                }
            }
            due("digest() behind seven rounds", x.digest(), byTurns.digest());
        });
        holds("- rounds: how many", () -> {
            for (int rounds = 1; rounds <= 8; rounds++) {
                TillOptimists x = States.clerks(1);
                for (int i = 0; i < 8; i++) {
                    x.say(0, PUT, 0, 0, i);
                }
                x.pass(rounds);
                due("told(0, 1) behind " + rounds, x.told(0, 1), rounds);
            }
            for (int rounds : new int[] {49, 50}) {
                TillOptimists x = sixWhoLose();
                x.pass(rounds);
                due("until() behind " + rounds, x.until(), 54 - rounds);
            }
        });
        holds("Returns how many clerks closed in them.", () -> {
            due("pass(50) without clerks", new TillOptimists().pass(50), 0);
            due("pass(50) of those without steps", States.clerks(6).pass(50), 0);
            due("pass(1) of one with one step", States.least().pass(1), 0);
            due("pass(2) of one with one step", States.least().pass(2), 1);
            due("pass(3) of one with one step", States.least().pass(3), 1);
            TillOptimists x = States.clerks(6);
            for (int c = 0; c < 6; c++) {
                x.say(c, PUT, 0, 0, c);
            }
            due("pass(2) of six", x.pass(2), 6);
            due("pass(2) of six who are done", x.pass(2), 0);
            due("pass(50) of six who lose", sixWhoLose().pass(50), 5);
        });
        holds("Throws IllegalArgumentException if rounds is not 1 to 50", () -> {
            for (Made state : new Made[] {States::bare, States::least, States::midway, States::full}) {
                refusedWith("pass(#)", state, ARGUMENT, (x, r) -> x.pass(r), 0, 51, -1, LOW, HIGH);
            }
            due("pass(1)", States.least().pass(1), 0);
            due("pass(50)", States.least().pass(50), 1);
        });
    }

    /** Six clerks of eight steps in each other's way: one closes in each nine rounds. */
    private static TillOptimists sixWhoLose() {
        TillOptimists x = States.clerks(6);
        for (int c = 0; c < 6; c++) {
            for (int i = 0; i < 8; i++) {
                x.say(c, ADD, 0, 0, 1);
            }
        }
        return x;
    }

    public static void main(String[] args) {
        newClerk();
        saying();
        turning();
        dropping();
        passing();
        end();
    }
}
