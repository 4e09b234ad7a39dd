import java.util.ArrayList;
import java.util.Arrays;
import java.util.List;

/** Terms, 'A method that throws an exception changes nothing' and 'If several exceptions apply, the one that is named
 * first is thrown': every call with arguments at and beyond all its edges, put together in every way. */
public final class RefusalsTest extends Sentences {
    // So few that an object stays within the calls that the document promises, whatever is asked of it then.
    private static final int REFUSED_AT_ONCE = 100;

    private static final int[] CLERKS = {LOW, -1, 0, 1, 2, 5, 6, HIGH};
    private static final int[] DRAWERS = {LOW, -1, 0, 1, 5, 6, 7, 8, HIGH};
    private static final int[] WHATS = {LOW, -1, 0, 1, 2, 3, 4, 6, 7, HIGH};
    private static final int[] PLACES = {LOW, -1, 0, 1, 2, 7, 8, HIGH};
    private static final int[] BACKS = {LOW, -1, 0, 2, 3, 9, 10, 12, 13, HIGH};
    private static final int[] ROUNDS = {LOW, -1, 0, 1, 50, 51, HIGH};
    private static final int[] AMOUNTS = {LOW, -1, 0, 9999, 10000, HIGH};
    private static final int[] NUMBERS = {LOW, -1000, -999, -1, 0, 1, 999, 1000, HIGH};
    private static final int[] KINDS = {LOW, -1, 0, 1, 2, 3, 4, HIGH};

    private final String name;
    private final Made state;
    private final int drawers;
    private final int clerks;
    private final int closings;
    private final List<Call> refusals = new ArrayList<>();

    private RefusalsTest(String name, Made state) {
        this.name = name;
        this.state = state;
        drawers = state.make().count(0);
        clerks = state.make().count(1);
        closings = state.make().count(3);
    }

    /** A call, and the exception that is due, or an empty text where it is answered. */
    private void call(String text, String want, Call made) {
        TillOptimists x = state.make();
        Object got = answer(x, made);
        boolean thrown = got.equals(INDEX) || got.equals(ARGUMENT) || got.equals(STATE);
        due(text + " of the " + name + " object", thrown ? got : got instanceof String ? got : "", want);
        if (!want.isEmpty()) {
            refusals.add(made);
        }
    }

    private void refusalsChangeNothing() {
        String standing = Told.all(state);
        for (int from = 0; from < refusals.size(); from += REFUSED_AT_ONCE) {
            List<Call> some = refusals.subList(from, Math.min(refusals.size(), from + REFUSED_AT_ONCE));
            String told = Told.all(() -> {
                TillOptimists x = state.make();
                some.forEach(refused -> answer(x, refused));
                return x;
            });
            due("refused calls changed the " + name + " object", !told.equals(standing), false);
        }
    }

    private static boolean out(int number, int least, int most) {
        return number < least || number > most;
    }

    private boolean noClerk(int c) {
        return out(c, 0, clerks - 1);
    }

    private boolean noDrawer(int d) {
        return out(d, 0, drawers - 1);
    }

    private static String index(boolean applies) {
        return applies ? INDEX : "";
    }

    private void ofTheTill() {
        for (int n : new int[] {LOW, -1, 0, 1, 8, 9, HIGH}) {
            call("till(" + n + ")", out(n, 1, 8) ? ARGUMENT : "", x -> x.till(n));
        }
        for (int d : DRAWERS) {
            for (int amount : AMOUNTS) {
                String want = noDrawer(d) ? INDEX : out(amount, 0, 9999) ? ARGUMENT : "";
                call("pay(" + d + ", " + amount + ")", want, x -> x.pay(d, amount));
            }
        }
    }

    private void ofClerks() {
        call("clerk()", clerks == 6 ? STATE : "", x -> x.clerk());
        for (int c : CLERKS) {
            boolean still = !noClerk(c) && (state.make().told(c, 2) == 1 || state.make().told(c, 0) == 0);
            call("turn(" + c + ")", noClerk(c) ? INDEX : still ? STATE : "", x -> x.turn(c));
            call("drop(" + c + ")", index(noClerk(c)), x -> x.drop(c));
            for (int kind : KINDS) {
                for (int d : DRAWERS) {
                    says(c, kind, d);
                }
            }
        }
        for (int rounds : ROUNDS) {
            call("pass(" + rounds + ")", out(rounds, 1, 50) ? ARGUMENT : "", x -> x.pass(rounds));
        }
    }

    private void says(int c, int kind, int d) {
        boolean takesNone = !noClerk(c) && (state.make().told(c, 2) == 1 || state.make().told(c, 1) != 0
            || state.make().told(c, 0) == 8);
        for (int e : new int[] {-1, 0, 5, 6, 7, 8}) {
            for (int b : NUMBERS) {
                int least = kind == 1 ? 0 : kind == 3 ? 1 : -999;
                String want = noClerk(c) || out(kind, 0, 3) || noDrawer(d) || noDrawer(e) ? INDEX
                    : out(b, least, 999) || (kind == 3 && d == e) ? ARGUMENT
                    : takesNone ? STATE : "";
                call("say(" + c + ", " + kind + ", " + d + ", " + e + ", " + b + ")", want,
                    x -> x.say(c, kind, d, e, b));
            }
        }
    }

    private void ofWhatThereIs() {
        for (int what : WHATS) {
            call("count(" + what + ")", index(out(what, 0, 6)), x -> x.count(what));
            for (int d : DRAWERS) {
                call("drawer(" + d + ", " + what + ")", index(noDrawer(d) || out(what, 0, 3)), x -> x.drawer(d, what));
            }
            for (int back : BACKS) {
                boolean none = out(back, 0, 9) || back >= closings || out(what, 0, 2);
                call("closing(" + back + ", " + what + ")", index(none), x -> x.closing(back, what));
            }
            for (int c : CLERKS) {
                ofAClerk(c, what);
            }
        }
        for (int a : CLERKS) {
            for (int b : CLERKS) {
                call("clash(" + a + ", " + b + ")", index(noClerk(a) || noClerk(b)), x -> x.clash(a, b));
            }
        }
    }

    private void ofAClerk(int c, int what) {
        call("told(" + c + ", " + what + ")", index(noClerk(c) || out(what, 0, 6)), x -> x.told(c, what));
        for (int d : DRAWERS) {
            call("slip(" + c + ", " + d + ", " + what + ")", index(noClerk(c) || noDrawer(d) || out(what, 0, 2)),
                x -> x.slip(c, d, what));
        }
        int steps = noClerk(c) ? 0 : state.make().told(c, 0);
        for (int place : PLACES) {
            call("step(" + c + ", " + place + ", " + what + ")", index(out(place, 0, steps - 1) || out(what, 0, 3)),
                x -> x.step(c, place, what));
        }
    }

    private void ofWhatWouldBe() {
        for (int c : CLERKS) {
            for (int d : DRAWERS) {
                call("alone(" + c + ", " + d + ")", index(noClerk(c) || noDrawer(d)), x -> x.alone(c, d));
            }
        }
        for (int rounds : ROUNDS) {
            for (int what : WHATS) {
                String want = out(rounds, 1, 50) ? ARGUMENT : index(out(what, 2, 6));
                call("foresee(" + rounds + ", " + what + ")", want, x -> x.foresee(rounds, what));
            }
        }
        call("until()", "", x -> x.until());
        call("advise()", "", x -> x.advise());
        call("mean()", "", x -> x.mean());
        call("digest()", "", x -> x.digest());
    }

    private void all() {
        about("Terms", "If several exceptions apply, the one that is named first is thrown.");
        ofTheTill();
        ofClerks();
        ofWhatThereIs();
        ofWhatWouldBe();
        about("Terms", "A method that throws an exception changes nothing.");
        refusalsChangeNothing();
    }

    public static void main(String[] args) {
        List<RefusalsTest> tests = Arrays.asList(new RefusalsTest("bare", States::bare),
            new RefusalsTest("least", States::least), new RefusalsTest("midway", States::midway),
            new RefusalsTest("full", States::full));
        tests.forEach(RefusalsTest::all);
        end();
    }
}
