import java.util.Arrays;

/** Each promise of the document: ordinary inputs, the edges it names, and wrong inputs. */
public final class PromisesTest {
    private interface Call {
        Object on(TillOptimists x);
    }

    private static final String INDEX = "IndexOutOfBoundsException";
    private static final String ARGUMENT = "IllegalArgumentException";
    private static final String STATE = "IllegalStateException";
    private static final int LOW = Integer.MIN_VALUE;
    private static final int HIGH = Integer.MAX_VALUE;

    private static int wrong = 0;
    private static int checks = 0;
    private static String promise = "";

    private static void due(String call, Object got, Object want) {
        checks++;
        if (!got.equals(want)) {
            wrong++;
            System.out.println(promise + ": " + call + " answered " + got + ", due is " + want);
        }
    }

    /** All that the face tells without changing anything. */
    private static String everything(TillOptimists x) {
        StringBuilder all = new StringBuilder();
        all.append(x.digest()).append(' ').append(x.until()).append(' ').append(x.advise());
        for (int c = 0; c < x.count(1); c++) {
            for (int p = 0; p < x.told(c, 0); p++) {
                for (int what = 0; what < 4; what++) {
                    all.append(' ').append(x.step(c, p, what));
                }
            }
        }
        return all.toString();
    }

    private static void throwing(String call, TillOptimists x, String want, Call made) {
        String before = everything(x);
        String got = "nothing";
        try {
            made.on(x);
        } catch (RuntimeException e) {
            got = e.getClass().getSimpleName();
        }
        due(call + " throws", got, want);
        due(call + " changed nothing", everything(x), before);
    }

    private static TillOptimists withClerks(int clerks) {
        TillOptimists x = new TillOptimists();
        for (int c = 0; c < clerks; c++) {
            x.clerk();
        }
        return x;
    }

    private static void turns(TillOptimists x, int clerk, int howMany) {
        for (int i = 0; i < howMany; i++) {
            x.turn(clerk);
        }
    }

    private static void slipIs(TillOptimists x, int clerk, int drawer, int amount, int seal, int own) {
        due("slip(" + clerk + ", " + drawer + ")",
            Arrays.asList(x.slip(clerk, drawer, 0), x.slip(clerk, drawer, 1), x.slip(clerk, drawer, 2)),
            Arrays.asList(amount, seal, own));
    }

    private static void drawerIs(TillOptimists x, int drawer, int amount, int seal, int rememberers, int writers) {
        due("drawer(" + drawer + ")",
            Arrays.asList(x.drawer(drawer, 0), x.drawer(drawer, 1), x.drawer(drawer, 2), x.drawer(drawer, 3)),
            Arrays.asList(amount, seal, rememberers, writers));
    }

    private static void toldIs(TillOptimists x, int clerk, Integer... want) {
        Integer[] got = new Integer[7];
        for (int what = 0; what < 7; what++) {
            got[what] = x.told(clerk, what);
        }
        due("told(" + clerk + ")", Arrays.asList(got), Arrays.asList(want));
    }

    private static void countIs(TillOptimists x, Integer... want) {
        Integer[] got = new Integer[7];
        for (int what = 0; what < 7; what++) {
            got[what] = x.count(what);
        }
        due("count", Arrays.asList(got), Arrays.asList(want));
    }

    private static void closingIs(TillOptimists x, int back, int closer, int written, int sum) {
        due("closing(" + back + ")",
            Arrays.asList(x.closing(back, 0), x.closing(back, 1), x.closing(back, 2)),
            Arrays.asList(closer, written, sum));
    }

    private static void promise1NewObject() {
        TillOptimists x = new TillOptimists();
        countIs(x, 6, 0, 0, 0, 0, 0, 0);
        for (int d = 0; d < 6; d++) {
            drawerIs(x, d, 0, 0, 0, 0);
        }
        due("pay(5, 1) on a new till", x.pay(5, 1), 0);
        TillOptimists other = new TillOptimists();
        due("another object has a till of its own", other.drawer(5, 0), 0);
    }

    private static void promise2Till() {
        TillOptimists x = withClerks(2);
        x.say(0, 2, 5, 5, 7);
        turns(x, 0, 2);
        x.say(1, 0, 5, 5, 0);
        x.turn(1);
        x.pay(5, 9);
        x.turn(1);
        due("lost before till", x.count(4), 1);
        for (int bad : new int[] {0, 9, -1, LOW, HIGH}) {
            throwing("till(" + bad + ")", x, ARGUMENT, t -> t.till(bad));
        }
        due("till(8)", x.till(8), 6);
        countIs(x, 8, 0, 0, 0, 0, 0, 0);
        due("until() on another till", x.until(), 0);
        drawerIs(x, 5, 0, 0, 0, 0);
        drawerIs(x, 7, 0, 0, 0, 0);
        throwing("closing(0, 0) on another till", x, INDEX, t -> t.closing(0, 0));
        throwing("told(0, 0) on another till", x, INDEX, t -> t.told(0, 0));
        due("clerk() on another till", x.clerk(), 0);
        toldIs(x, 0, 0, 0, 0, 0, 0, 0, 0);
        slipIs(x, 0, 5, -1, -1, -1);
        due("clerk() of the number of one who lost", x.clerk(), 1);
        toldIs(x, 1, 0, 0, 0, 0, 0, 0, 0);
        due("pay(7, 3)", x.pay(7, 3), 0);
        due("drawer(7, 1) counts closings from 1 again", x.drawer(7, 1), 1);
        due("till(1)", x.till(1), 8);
        due("till(1) again", x.till(1), 1);
        throwing("pay(1, 1) with one drawer", x, INDEX, t -> t.pay(1, 1));
        due("pay(0, 1) with one drawer", x.pay(0, 1), 0);
        due("till(8) again", x.till(8), 1);
        drawerIs(x, 0, 0, 0, 0, 0);
        promise2EightDrawers(x);
    }

    private static void promise2EightDrawers(TillOptimists x) {
        x.clerk();
        x.clerk();
        x.say(0, 2, 7, 7, 5);
        x.say(1, 3, 7, 6, 2);
        x.pay(7, 4);
        due("alone on the eighth drawer", x.alone(0, 7), 9);
        due("foresee all amounts of eight drawers", x.foresee(2, 5), 9);
        x.turn(0);
        x.turn(1);
        due("clash on the eighth drawer", x.clash(0, 1), true);
        due("no loss yet", x.count(6), 0);
        due("advise", x.advise(), 0);
        x.till(3);
        due("foresee all amounts of three drawers", x.foresee(2, 5), 0);
        x.till(8);
        x.clerk();
        x.clerk();
        x.say(0, 0, 0, 0, 0);
        x.say(1, 1, 7, 7, 0);
        x.turn(0);
        x.turn(1);
        due("no clash of eight drawers", x.clash(0, 1), false);
    }

    private static void promise3Pay() {
        TillOptimists x = new TillOptimists();
        due("pay(0, 9999)", x.pay(0, 9999), 0);
        due("pay(0, 9999) again", x.pay(0, 9999), 9999);
        drawerIs(x, 0, 9999, 2, 0, 0);
        due("pay(3, 40)", x.pay(3, 40), 0);
        due("pay(0, 0)", x.pay(0, 0), 9999);
        drawerIs(x, 0, 0, 4, 0, 0);
        drawerIs(x, 3, 40, 3, 0, 0);
        closingIs(x, 0, -1, 1, 40);
        closingIs(x, 1, -1, 1, 10039);
        closingIs(x, 2, -1, 1, 9999);
        throwing("pay(6, 1)", x, INDEX, t -> t.pay(6, 1));
        throwing("pay(-1, 1)", x, INDEX, t -> t.pay(-1, 1));
        throwing("pay(HIGH, 10000)", x, INDEX, t -> t.pay(HIGH, 10000));
        throwing("pay(LOW, -1)", x, INDEX, t -> t.pay(LOW, -1));
        throwing("pay(0, 10000)", x, ARGUMENT, t -> t.pay(0, 10000));
        throwing("pay(5, -1)", x, ARGUMENT, t -> t.pay(5, -1));
    }

    private static void promise4Clerk() {
        TillOptimists x = new TillOptimists();
        for (int c = 0; c < 6; c++) {
            due("clerk()", x.clerk(), c);
            toldIs(x, c, 0, 0, 0, 0, 0, 0, 0);
        }
        throwing("the seventh clerk()", x, STATE, TillOptimists::clerk);
        due("count(1)", x.count(1), 6);
    }

    private static void promise5Say() {
        TillOptimists x = withClerks(2);
        due("say look", x.say(0, 0, 0, 5, -999), 1);
        due("say put", x.say(0, 1, 1, 1, 0), 2);
        due("say add", x.say(0, 2, 2, 0, 999), 3);
        due("say carry", x.say(0, 3, 3, 4, 1), 4);
        for (int n = 5; n <= 8; n++) {
            due("say", x.say(0, 2, 5, 5, -n), n);
        }
        throwing("a ninth step", x, STATE, t -> t.say(0, 0, 0, 0, 0));
        throwing("a ninth step with a wrong number", x, ARGUMENT, t -> t.say(0, 1, 0, 0, -1));
        throwing("a ninth step with a wrong drawer", x, INDEX, t -> t.say(0, 1, 6, 0, -1));
        promise5WrongInputs(x);
        promise5WhileAtWork();
    }

    private static void promise5WrongInputs(TillOptimists x) {
        for (int bad : new int[] {-1, 2, LOW, HIGH}) {
            throwing("say to clerk " + bad, x, INDEX, t -> t.say(bad, 0, 0, 0, 1000));
        }
        for (int bad : new int[] {-1, 4, LOW, HIGH}) {
            throwing("say kind " + bad, x, INDEX, t -> t.say(1, bad, 0, 0, 1000));
        }
        for (int bad : new int[] {-1, 6, LOW, HIGH}) {
            throwing("say d " + bad, x, INDEX, t -> t.say(1, 3, bad, 0, 0));
            throwing("say e " + bad, x, INDEX, t -> t.say(1, 0, 0, bad, 1000));
        }
        for (int kind = 0; kind < 4; kind++) {
            int k = kind;
            for (int bad : new int[] {-1000, 1000, LOW, HIGH}) {
                throwing("say kind " + k + " number " + bad, x, ARGUMENT, t -> t.say(1, k, 0, 1, bad));
            }
        }
        throwing("put -1", x, ARGUMENT, t -> t.say(1, 1, 0, 1, -1));
        throwing("carry 0", x, ARGUMENT, t -> t.say(1, 3, 0, 1, 0));
        throwing("carry -5", x, ARGUMENT, t -> t.say(1, 3, 0, 1, -5));
        throwing("carry from a drawer to itself", x, ARGUMENT, t -> t.say(1, 3, 2, 2, 5));
        due("nothing was said to clerk 1", x.told(1, 0), 0);
        due("look -999", x.say(1, 0, 0, 0, -999), 1);
        due("add -999", x.say(1, 2, 0, 0, -999), 2);
        due("put 999", x.say(1, 1, 0, 0, 999), 3);
        due("carry 999", x.say(1, 3, 0, 1, 999), 4);
    }

    private static void promise5WhileAtWork() {
        TillOptimists x = withClerks(1);
        x.say(0, 0, 0, 0, 0);
        x.turn(0);
        throwing("say behind a turn", x, STATE, t -> t.say(0, 0, 0, 0, 0));
        throwing("say wrongly behind a turn", x, ARGUMENT, t -> t.say(0, 3, 0, 0, 1));
        x.turn(0);
        throwing("say to one who is done", x, STATE, t -> t.say(0, 0, 0, 0, 0));
        x.drop(0);
        due("say behind drop", x.say(0, 0, 1, 1, 0), 2);
        x.turn(0);
        x.pay(0, 1);
        x.turn(0);
        due("turn that loses", x.turn(0), 2);
        due("say behind a lost go", x.say(0, 0, 1, 1, 0), 3);
    }

    private static void promise6Turn() {
        promise6Look();
        promise6PutAndAdd();
        promise6Carry();
        promise6CloseAndLose();
        promise6Wrong();
    }

    private static void promise6Look() {
        TillOptimists x = withClerks(1);
        x.pay(2, 30);
        x.pay(1, 5);
        x.say(0, 0, 2, 2, 0);
        x.say(0, 0, 2, 2, 0);
        due("look", x.turn(0), 0);
        slipIs(x, 0, 2, 30, 1, -1);
        slipIs(x, 0, 1, -1, -1, -1);
        x.pay(2, 31);
        x.turn(0);
        slipIs(x, 0, 2, 30, 1, -1);
        due("a look at what was changed loses", x.turn(0), 2);
        slipIs(x, 0, 2, -1, -1, -1);
        turns(x, 0, 2);
        slipIs(x, 0, 2, 31, 3, -1);
        due("close without writing", x.turn(0), 1);
        closingIs(x, 0, 0, 0, 36);
        drawerIs(x, 2, 31, 3, 0, 0);
        slipIs(x, 0, 2, 31, 3, -1);
        toldIs(x, 0, 2, 2, 1, 1, 1, 0, 0);
    }

    private static void promise6PutAndAdd() {
        TillOptimists x = withClerks(2);
        x.pay(0, 9990);
        x.pay(1, 10);
        x.say(0, 2, 0, 0, 9);
        x.say(0, 2, 0, 0, 1);
        x.say(0, 2, 1, 1, -10);
        x.say(0, 2, 1, 1, -1);
        x.say(0, 1, 2, 2, 7);
        x.say(0, 0, 2, 2, 0);
        x.say(0, 2, 2, 2, 3);
        x.turn(0);
        slipIs(x, 0, 0, 9990, 1, 9999);
        x.turn(0);
        slipIs(x, 0, 0, 9990, 1, 9999);
        x.turn(0);
        slipIs(x, 0, 1, 10, 2, 0);
        x.turn(0);
        slipIs(x, 0, 1, 10, 2, 0);
        turns(x, 0, 2);
        slipIs(x, 0, 2, -1, -1, 7);
        x.turn(0);
        slipIs(x, 0, 2, -1, -1, 10);
        drawerIs(x, 0, 9990, 1, 1, 1);
        drawerIs(x, 2, 0, 0, 0, 1);
        x.pay(2, 500);
        due("close over what was put, but never read", x.turn(0), 1);
        drawerIs(x, 0, 9999, 4, 0, 0);
        drawerIs(x, 1, 0, 4, 0, 0);
        drawerIs(x, 2, 10, 4, 0, 0);
        x.say(1, 0, 3, 3, 0);
        x.say(1, 1, 3, 3, 44);
        x.say(1, 2, 3, 3, 1);
        turns(x, 1, 3);
        slipIs(x, 1, 3, 0, 0, 45);
    }

    private static void promise6Carry() {
        TillOptimists x = withClerks(1);
        x.pay(0, 20);
        x.pay(1, 9990);
        x.say(0, 3, 0, 1, 21);
        x.say(0, 3, 0, 1, 20);
        x.say(0, 3, 0, 2, 1);
        x.say(0, 3, 1, 0, 999);
        due("carry what is not there", x.turn(0), 0);
        slipIs(x, 0, 0, 20, 1, -1);
        slipIs(x, 0, 1, -1, -1, -1);
        due("place behind it", x.told(0, 1), 1);
        x.turn(0);
        slipIs(x, 0, 0, 20, 1, 0);
        slipIs(x, 0, 1, 9990, 2, 9999);
        x.turn(0);
        slipIs(x, 0, 0, 20, 1, 0);
        slipIs(x, 0, 2, -1, -1, -1);
        x.turn(0);
        slipIs(x, 0, 0, 20, 1, 999);
        slipIs(x, 0, 1, 9990, 2, 9000);
        due("close", x.turn(0), 1);
        closingIs(x, 0, 0, 2, 9999);
        drawerIs(x, 0, 999, 3, 0, 0);
        drawerIs(x, 1, 9000, 3, 0, 0);
        drawerIs(x, 2, 0, 0, 0, 0);
    }

    private static void promise6CloseAndLose() {
        TillOptimists x = withClerks(2);
        x.pay(0, 50);
        x.say(0, 2, 0, 0, 0);
        x.say(1, 2, 0, 0, 5);
        x.turn(0);
        x.turn(1);
        due("close with the same amount", x.turn(0), 1);
        drawerIs(x, 0, 50, 2, 1, 1);
        due("lose to the same amount", x.turn(1), 2);
        toldIs(x, 1, 1, 0, 0, 1, 0, 0, 0);
        slipIs(x, 1, 0, -1, -1, -1);
        due("again: step", x.turn(1), 0);
        due("again: close", x.turn(1), 1);
        toldIs(x, 1, 1, 1, 1, 1, 1, 1, 0);
        slipIs(x, 1, 0, 50, 2, 55);
        drawerIs(x, 0, 55, 3, 0, 0);
    }

    private static void promise6Wrong() {
        TillOptimists x = withClerks(2);
        x.say(0, 0, 0, 0, 0);
        throwing("turn of one without steps", x, STATE, t -> t.turn(1));
        for (int bad : new int[] {-1, 2, LOW, HIGH}) {
            throwing("turn(" + bad + ")", x, INDEX, t -> t.turn(bad));
        }
        turns(x, 0, 2);
        throwing("turn of one who is done", x, STATE, t -> t.turn(0));
    }

    private static void promise7Drop() {
        TillOptimists x = withClerks(2);
        x.say(0, 2, 0, 0, 5);
        x.say(0, 3, 5, 4, 5);
        due("drop ahead of all", x.drop(0), 0);
        x.turn(0);
        due("drop behind a step", x.drop(0), 1);
        toldIs(x, 0, 2, 0, 0, 0, 0, 0, 0);
        slipIs(x, 0, 0, -1, -1, -1);
        turns(x, 0, 2);
        due("drop ahead of closing", x.drop(0), 2);
        turns(x, 0, 3);
        due("done", x.told(0, 2), 1);
        due("drop one who is done", x.drop(0), 2);
        toldIs(x, 0, 2, 0, 0, 0, 0, 0, 0);
        drawerIs(x, 0, 5, 1, 0, 0);
        due("turn behind drop", x.turn(0), 0);
        slipIs(x, 0, 0, 5, 1, 10);
        due("drop one without steps", x.drop(1), 0);
        x.pay(0, 1);
        turns(x, 0, 2);
        due("lost", x.told(0, 3), 1);
        x.drop(0);
        due("goes lost stay", x.told(0, 3), 1);
        for (int bad : new int[] {-1, 2, LOW, HIGH}) {
            throwing("drop(" + bad + ")", x, INDEX, t -> t.drop(bad));
        }
    }

    private static void promise8Pass() {
        TillOptimists x = withClerks(4);
        x.say(0, 2, 0, 0, 1);
        x.say(2, 2, 0, 0, 1);
        x.say(3, 2, 0, 0, 1);
        due("pass(1)", x.pass(1), 0);
        due("count(6) behind it", x.count(6), 0);
        due("pass(1) again", x.pass(1), 1);
        toldIs(x, 0, 1, 1, 1, 0, 1, 1, 0);
        toldIs(x, 2, 1, 0, 0, 1, 0, 0, 0);
        toldIs(x, 3, 1, 0, 0, 1, 0, 0, 0);
        due("pass(3)", x.pass(3), 1);
        due("pass(50)", x.pass(50), 1);
        due("pass(50) without work", x.pass(50), 0);
        countIs(x, 6, 4, 3, 3, 3, 3, 0);
        for (int bad : new int[] {0, 51, -1, LOW, HIGH}) {
            throwing("pass(" + bad + ")", x, ARGUMENT, t -> t.pass(bad));
        }
        due("pass without clerks", new TillOptimists().pass(1), 0);
    }

    private static void promise9Drawer() {
        TillOptimists x = withClerks(3);
        x.say(0, 0, 1, 1, 0);
        x.say(1, 1, 1, 1, 4);
        x.say(2, 2, 1, 1, 4);
        for (int c = 0; c < 3; c++) {
            x.turn(c);
        }
        drawerIs(x, 1, 0, 0, 2, 2);
        drawerIs(x, 0, 0, 0, 0, 0);
        x.turn(1);
        drawerIs(x, 1, 4, 1, 2, 1);
        x.turn(0);
        drawerIs(x, 1, 4, 1, 1, 1);
        for (int bad : new int[] {-1, 6, LOW, HIGH}) {
            throwing("drawer(" + bad + ", 0)", x, INDEX, t -> t.drawer(bad, 0));
        }
        for (int bad : new int[] {-1, 4, LOW, HIGH}) {
            throwing("drawer(0, " + bad + ")", x, INDEX, t -> t.drawer(0, bad));
        }
    }

    private static void promise10Told() {
        TillOptimists x = withClerks(2);
        x.say(0, 0, 1, 1, 0);
        x.say(0, 3, 0, 2, 1);
        x.say(0, 1, 3, 3, 1);
        toldIs(x, 0, 3, 0, 0, 0, 0, 0, 0);
        x.pay(0, 10);
        turns(x, 0, 3);
        toldIs(x, 0, 3, 3, 0, 0, 3, 3, 0);
        x.pay(3, 1);
        toldIs(x, 0, 3, 3, 0, 0, 3, 3, 0);
        x.pay(1, 0);
        toldIs(x, 0, 3, 3, 0, 0, 3, 3, 1);
        x.turn(0);
        toldIs(x, 0, 3, 0, 0, 1, 0, 0, 0);
        turns(x, 0, 4);
        toldIs(x, 0, 3, 3, 1, 1, 3, 3, 0);
        x.pay(1, 7);
        toldIs(x, 0, 3, 3, 1, 1, 3, 3, 0);
        for (int bad : new int[] {-1, 2, LOW, HIGH}) {
            throwing("told(" + bad + ", 0)", x, INDEX, t -> t.told(bad, 0));
        }
        for (int bad : new int[] {-1, 7, LOW, HIGH}) {
            throwing("told(0, " + bad + ")", x, INDEX, t -> t.told(0, bad));
        }
    }

    private static void promise11Slip() {
        TillOptimists x = withClerks(1);
        x.pay(5, 8);
        x.say(0, 2, 5, 5, -8);
        slipIs(x, 0, 5, -1, -1, -1);
        x.turn(0);
        slipIs(x, 0, 5, 8, 1, 0);
        slipIs(x, 0, 0, -1, -1, -1);
        x.turn(0);
        slipIs(x, 0, 5, 8, 1, 0);
        for (int bad : new int[] {-1, 1, LOW, HIGH}) {
            throwing("slip(" + bad + ", 0, 0)", x, INDEX, t -> t.slip(bad, 0, 0));
        }
        for (int bad : new int[] {-1, 6, LOW, HIGH}) {
            throwing("slip(0, " + bad + ", 0)", x, INDEX, t -> t.slip(0, bad, 0));
        }
        for (int bad : new int[] {-1, 3, LOW, HIGH}) {
            throwing("slip(0, 0, " + bad + ")", x, INDEX, t -> t.slip(0, 0, bad));
        }
    }

    private static void promise12Step() {
        TillOptimists x = withClerks(2);
        int[][] steps = {{0, 1, 5, -7}, {1, 2, 2, 9}, {2, 3, 0, -999}, {3, 4, 5, 1}};
        for (int[] s : steps) {
            x.say(1, s[0], s[1], s[2], s[3]);
        }
        for (int place = 0; place < steps.length; place++) {
            for (int what = 0; what < 4; what++) {
                due("step(1, " + place + ", " + what + ")", x.step(1, place, what), steps[place][what]);
            }
        }
        throwing("step of one without", x, INDEX, t -> t.step(0, 0, 0));
        for (int bad : new int[] {-1, 2, LOW, HIGH}) {
            throwing("step(" + bad + ", 0, 0)", x, INDEX, t -> t.step(bad, 0, 0));
        }
        for (int bad : new int[] {-1, 4, 8, LOW, HIGH}) {
            throwing("step(1, " + bad + ", 0)", x, INDEX, t -> t.step(1, bad, 0));
            throwing("step(1, 0, " + bad + ")", x, INDEX, t -> t.step(1, 0, bad));
        }
    }

    private static void promise13Closing() {
        TillOptimists x = withClerks(1);
        throwing("closing(0, 0) without any", x, INDEX, t -> t.closing(0, 0));
        x.pay(1, 100);
        throwing("closing(1, 0) with one", x, INDEX, t -> t.closing(1, 0));
        x.say(0, 3, 1, 0, 60);
        x.say(0, 1, 4, 4, 3);
        turns(x, 0, 3);
        closingIs(x, 0, 0, 3, 103);
        closingIs(x, 1, -1, 1, 100);
        for (int i = 1; i <= 9; i++) {
            x.pay(5, i);
        }
        closingIs(x, 0, -1, 1, 112);
        closingIs(x, 8, -1, 1, 104);
        closingIs(x, 9, 0, 3, 103);
        x.pay(5, 0);
        closingIs(x, 0, -1, 1, 103);
        closingIs(x, 9, -1, 1, 104);
        for (int bad : new int[] {-1, 10, LOW, HIGH}) {
            throwing("closing(" + bad + ", 0)", x, INDEX, t -> t.closing(bad, 0));
        }
        for (int bad : new int[] {-1, 3, LOW, HIGH}) {
            throwing("closing(0, " + bad + ")", x, INDEX, t -> t.closing(0, bad));
        }
    }

    private static void promise14Clash() {
        TillOptimists x = withClerks(3);
        x.say(0, 2, 1, 1, 5);
        x.say(1, 0, 1, 1, 0);
        x.say(2, 1, 1, 1, 5);
        due("clash ahead of all", x.clash(0, 1), false);
        for (int c = 0; c < 3; c++) {
            x.turn(c);
        }
        boolean[][] want = {{false, true, false}, {false, false, false}, {true, true, false}};
        for (int a = 0; a < 3; a++) {
            for (int b = 0; b < 3; b++) {
                due("clash(" + a + ", " + b + ")", x.clash(a, b), want[a][b]);
            }
        }
        x.turn(1);
        due("clash with one who is done", x.clash(0, 1), false);
        x.turn(2);
        due("clash of one who is done", x.clash(2, 0), false);
        for (int bad : new int[] {-1, 3, LOW, HIGH}) {
            throwing("clash(" + bad + ", 0)", x, INDEX, t -> t.clash(bad, 0));
            throwing("clash(0, " + bad + ")", x, INDEX, t -> t.clash(0, bad));
            throwing("clash(" + bad + ", " + bad + ")", x, INDEX, t -> t.clash(bad, bad));
        }
    }

    private static void promise15Count() {
        TillOptimists x = withClerks(4);
        x.till(7);
        for (int c = 0; c < 4; c++) {
            x.clerk();
        }
        x.say(0, 2, 6, 6, 100);
        x.say(1, 2, 6, 6, 10);
        x.say(2, 0, 6, 6, 0);
        x.turn(0);
        x.turn(1);
        x.turn(2);
        countIs(x, 7, 4, 0, 0, 0, 0, 0);
        x.turn(0);
        countIs(x, 7, 4, 1, 1, 0, 100, 2);
        x.turn(1);
        countIs(x, 7, 4, 1, 1, 1, 100, 1);
        x.pay(0, 9999);
        countIs(x, 7, 4, 1, 2, 1, 10099, 1);
        x.turn(2);
        countIs(x, 7, 4, 1, 2, 2, 10099, 0);
        for (int bad : new int[] {-1, 7, LOW, HIGH}) {
            throwing("count(" + bad + ")", x, INDEX, t -> t.count(bad));
        }
    }

    private static void promise16Alone() {
        TillOptimists x = withClerks(3);
        x.pay(0, 100);
        x.say(0, 3, 0, 1, 30);
        x.say(0, 2, 0, 0, -80);
        x.say(1, 2, 0, 0, 5);
        due("alone(0, 0)", x.alone(0, 0), 0);
        due("alone(0, 1)", x.alone(0, 1), 30);
        due("alone(0, 2)", x.alone(0, 2), 0);
        due("alone without steps", x.alone(2, 0), 100);
        x.turn(0);
        x.pay(0, 20);
        String before = everything(x);
        due("alone begins now, not from the slip", x.alone(0, 1), 0);
        due("alone of one whose slip is out of date", x.alone(0, 0), 0);
        due("alone changed nothing", everything(x), before);
        x.pay(0, 200);
        turns(x, 1, 2);
        due("alone of one who is done", x.alone(1, 0), 210);
        due("it stays done", x.told(1, 2), 1);
        for (int i = 0; i < 8; i++) {
            x.say(2, 2, 5, 5, 1);
        }
        due("alone through eight steps", x.alone(2, 5), 8);
        for (int bad : new int[] {-1, 3, LOW, HIGH}) {
            throwing("alone(" + bad + ", 0)", x, INDEX, t -> t.alone(bad, 0));
        }
        for (int bad : new int[] {-1, 6, LOW, HIGH}) {
            throwing("alone(0, " + bad + ")", x, INDEX, t -> t.alone(0, bad));
        }
    }

    private static void promise17Until() {
        TillOptimists x = withClerks(6);
        due("until without steps", x.until(), 0);
        x.say(0, 0, 0, 0, 0);
        due("until of one step", x.until(), 2);
        x.turn(0);
        due("until ahead of closing", x.until(), 1);
        x.turn(0);
        due("until of one who is done", x.until(), 0);
        x.drop(0);
        for (int i = 0; i < 7; i++) {
            x.say(0, 2, 0, 0, 1);
        }
        for (int c = 1; c < 6; c++) {
            for (int i = 0; i < 8; i++) {
                x.say(c, 2, 0, 0, 1);
            }
        }
        String before = everything(x);
        due("until of six who lose to each other", x.until(), 54);
        due("until changed nothing", everything(x), before);
        due("until() tells what pass() does", x.pass(50), 5);
        due("until behind 50 rounds", x.until(), 4);
        x.pass(3);
        due("until behind 53 rounds", x.until(), 1);
        due("the last round closes", x.pass(1), 1);
        due("until at the end", x.until(), 0);
    }

    private static void promise18Foresee() {
        TillOptimists x = withClerks(3);
        x.say(0, 2, 0, 0, 7);
        x.say(1, 2, 0, 0, 7);
        x.say(2, 1, 5, 5, 9);
        x.say(2, 0, 0, 0, 9);
        int[][] want = {{0, 0, 0, 0, 0}, {1, 1, 1, 7, 0}, {2, 2, 1, 16, 0}, {3, 3, 1, 23, 0}};
        String before = everything(x);
        for (int rounds = 1; rounds <= 4; rounds++) {
            for (int what = 2; what <= 6; what++) {
                due("foresee(" + rounds + ", " + what + ")", x.foresee(rounds, what), want[rounds - 1][what - 2]);
            }
        }
        due("foresee(50, 5)", x.foresee(50, 5), 23);
        due("foresee changed nothing", everything(x), before);
        x.pass(1);
        x.pay(0, 1);
        due("count(6)", x.count(6), 2);
        due("foresee(1, 4)", x.foresee(1, 4), 2);
        due("foresee(1, 6)", x.foresee(1, 6), 0);
        promise18WouldLose();
        for (int bad : new int[] {0, 51, -1, LOW, HIGH}) {
            throwing("foresee(" + bad + ", 2)", x, ARGUMENT, t -> t.foresee(bad, 2));
            throwing("foresee(" + bad + ", 7)", x, ARGUMENT, t -> t.foresee(bad, 7));
        }
        for (int bad : new int[] {-1, 0, 1, 7, LOW, HIGH}) {
            throwing("foresee(1, " + bad + ")", x, INDEX, t -> t.foresee(1, bad));
        }
    }

    private static void promise18WouldLose() {
        TillOptimists x = withClerks(2);
        x.say(0, 0, 3, 3, 0);
        x.say(0, 0, 3, 3, 0);
        x.say(1, 1, 3, 3, 0);
        due("foresee(1, 6)", x.foresee(1, 6), 0);
        due("foresee(2, 6)", x.foresee(2, 6), 1);
        due("foresee(3, 6)", x.foresee(3, 6), 0);
        due("foresee(3, 4)", x.foresee(3, 4), 1);
    }

    private static void promise19Advise() {
        TillOptimists x = withClerks(5);
        due("advise without steps", x.advise(), -1);
        due("advise without clerks", new TillOptimists().advise(), -1);
        x.say(1, 2, 0, 0, 1);
        x.say(1, 0, 1, 1, 1);
        x.say(2, 0, 0, 0, 1);
        x.say(2, 2, 2, 2, 1);
        x.say(3, 0, 0, 0, 1);
        x.say(3, 0, 2, 2, 1);
        due("advise: the smallest number of several", x.advise(), 1);
        x.turn(2);
        due("advise: the greater place of several", x.advise(), 2);
        turns(x, 1, 2);
        due("advise: no one clashes with 2", x.advise(), 2);
        x.turn(3);
        due("advise: the smaller of 2 and 3", x.advise(), 2);
        x.turn(3);
        due("advise: the greater place of 2 and 3", x.advise(), 3);
        x.turn(2);
        due("advise: 2 clashes with 3 now", x.advise(), 3);
        x.turn(3);
        due("advise: not one who is done, 2 has none to clash with", x.advise(), 2);
        x.turn(2);
        due("advise: the one that is left", x.advise(), 1);
        x.turn(1);
        due("advise: none is left", x.advise(), -1);
        promise19FewestBeforePlace();
        promise19ClerkZero();
    }

    private static void promise19ClerkZero() {
        TillOptimists x = withClerks(1);
        x.say(0, 2, 0, 0, 1);
        due("advise: clerk 0 alone", x.advise(), 0);
        x.clerk();
        x.clerk();
        x.say(1, 1, 0, 0, 1);
        x.say(2, 0, 1, 1, 1);
        x.turn(0);
        x.turn(1);
        x.turn(2);
        due("advise: clerk 0 does not clash with itself", x.advise(), 0);
        x.drop(0);
        x.turn(0);
        x.till(6);
        x.clerk();
        x.clerk();
        x.say(0, 0, 0, 0, 0);
        x.say(1, 1, 0, 0, 1);
        x.say(1, 1, 0, 0, 1);
        x.turn(0);
        turns(x, 1, 2);
        due("advise: 1 is further, but clashes with 0", x.advise(), 0);
    }

    private static void promise19FewestBeforePlace() {
        TillOptimists x = withClerks(3);
        for (int i = 0; i < 4; i++) {
            x.say(0, 1, 0, 0, 1);
        }
        x.say(1, 0, 0, 0, 0);
        x.say(1, 1, 3, 3, 0);
        x.say(2, 0, 0, 0, 0);
        x.say(2, 0, 3, 3, 0);
        turns(x, 0, 4);
        turns(x, 1, 2);
        turns(x, 2, 2);
        due("advise: two, one and none clash", x.advise(), 2);
        turns(x, 2, 1);
        due("advise: one and none clash", x.advise(), 1);
    }

    private static void promise20Mean() {
        TillOptimists x = new TillOptimists();
        due("mean without clerks", x.mean(), 0.0);
        x.clerk();
        x.clerk();
        x.clerk();
        due("mean without loss", x.mean(), 0.0);
        x.say(1, 0, 0, 0, 0);
        for (int i = 1; i <= 4; i++) {
            x.turn(1);
            x.pay(0, i);
            x.turn(1);
            due("mean of " + i, x.mean(), i / 3.0);
        }
        x.till(2);
        due("mean on another till", x.mean(), 0.0);
        x.clerk();
        x.say(0, 0, 0, 0, 0);
        x.turn(0);
        x.pay(0, 1);
        x.turn(0);
        due("mean of a single clerk", x.mean(), 1.0);
    }

    private static long chained(int... numbers) {
        long d = 1811;
        for (int x : numbers) {
            d = d * 31 + x;
        }
        return d;
    }

    private static void promise21Digest() {
        TillOptimists x = new TillOptimists();
        x.till(1);
        due("digest", x.digest(), chained(1, 0, 0, 0, 0, 0, 0, 0, 0, 0, 0));
        x.clerk();
        x.clerk();
        x.say(0, 2, 0, 0, 4);
        x.say(1, 1, 0, 0, 6);
        x.turn(0);
        x.pay(0, 3);
        due("digest", x.digest(), chained(1, 2, 0, 1, 0, 3, 1, 3, 1, 1, 1,
            1, 1, 0, 0, 1, 1, 1, 0, 0, 4, 1, 0, 0, 0, 0, 0, 0, -1, -1, -1, -1, 1, 3));
        turns(x, 1, 2);
        due("digest", x.digest(), chained(1, 2, 1, 2, 0, 6, 1, 6, 2, 1, 1,
            1, 1, 0, 0, 1, 1, 1, 0, 0, 4, 1, 1, 1, 0, 0, 1, 0, -1, -1, 6, 1, 1, 6, -1, 1, 3));
        x.till(1);
        int[] numbers = new int[11 + 30];
        for (int i = 0; i < 12; i++) {
            x.pay(0, i * i);
        }
        int[] head = {1, 0, 0, 12, 0, 121, 0, 121, 12, 0, 0};
        System.arraycopy(head, 0, numbers, 0, head.length);
        for (int back = 0; back < 10; back++) {
            numbers[11 + 3 * back] = -1;
            numbers[12 + 3 * back] = 1;
            numbers[13 + 3 * back] = (11 - back) * (11 - back);
        }
        due("digest of the latest ten", x.digest(), chained(numbers));
    }

    private static void run(int number) {
        promise = "promise " + number;
        switch (number) {
            case 1: promise1NewObject(); break;
            case 2: promise2Till(); break;
            case 3: promise3Pay(); break;
            case 4: promise4Clerk(); break;
            case 5: promise5Say(); break;
            case 6: promise6Turn(); break;
            case 7: promise7Drop(); break;
            case 8: promise8Pass(); break;
            case 9: promise9Drawer(); break;
            case 10: promise10Told(); break;
            case 11: promise11Slip(); break;
            case 12: promise12Step(); break;
            case 13: promise13Closing(); break;
            case 14: promise14Clash(); break;
            case 15: promise15Count(); break;
            case 16: promise16Alone(); break;
            case 17: promise17Until(); break;
            case 18: promise18Foresee(); break;
            case 19: promise19Advise(); break;
            case 20: promise20Mean(); break;
            default: promise21Digest(); break;
        }
    }

    public static void main(String[] args) {
        for (int number = 1; number <= 21; number++) {
            try {
                run(number);
            } catch (RuntimeException e) {
                wrong++;
                System.out.println(promise + ": the test itself ended by " + e);
            }
        }
        System.out.println(checks + " checks, " + wrong + " wrong");
        if (wrong != 0) {
            System.exit(1);
        }
    }
}
