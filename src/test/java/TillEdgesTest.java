/** Promises 1 to 3: each sentence by a test of its own. */
public final class TillEdgesTest extends Sentences {
    private static void newObject() {
        in("Promise 1");
        holds("Creates a till with 6 drawers", () -> {
            TillOptimists x = new TillOptimists();
            due("count(0)", x.count(0), 6);
            due("till(6) on a new object", x.till(6), 6);
            for (int d = 0; d < 6; d++) {
                drawerIs(new TillOptimists(), d, 0, 0);
            }
            refused("drawer(6, 0)", States::bare, INDEX, y -> y.drawer(6, 0));
            refused("pay(6, 0)", States::bare, INDEX, y -> y.pay(6, 0));
            due("a new object is as one with another till of 6", Told.all(States::bare),
                Told.all(() -> States.tillWithClerks(6, 0)));
        });
        holds(", without clerks.", () -> {
            TillOptimists x = new TillOptimists();
            countIs(x, 6, 0, 0, 0, 0, 0, 0);
            due("the number of the first clerk", x.clerk(), 0);
            refused("told(0, 0)", States::bare, INDEX, y -> y.told(0, 0));
            refused("drop(0)", States::bare, INDEX, y -> y.drop(0));
        });
    }

    private static void anotherTill() {
        in("Promise 2");
        holds("Takes another till; ", () -> {
            for (int n = 1; n <= 8; n++) {
                TillOptimists x = States.full();
                x.till(n);
                due("count(0) behind till(" + n + ")", x.count(0), n);
            }
        });
        holds("all begins anew.", () -> {
            for (int n = 1; n <= 8; n++) {
                int drawers = n;
                String anew = Told.all(() -> States.tillWithClerks(drawers, 0));
                due("till(" + n + ") on a full one", Told.all(() -> anewBehind(States.full(), drawers)), anew);
                due("till(" + n + ") midway", Told.all(() -> anewBehind(States.midway(), drawers)), anew);
                due("till(" + n + ") on the least", Told.all(() -> anewBehind(States.least(), drawers)), anew);
            }
            due("clerks on another till", Told.all(() -> clerksBehindTill(States.full())),
                Told.all(() -> clerksBehindTill(States.bare())));
            TillOptimists x = anewBehind(States.full(), 8);
            countIs(x, 8, 0, 0, 0, 0, 0, 0);
            throwing("closing(0, 0)", x, INDEX, y -> y.closing(0, 0));
        });
        tillAnswers();
    }

    private static TillOptimists anewBehind(TillOptimists x, int drawers) {
        x.till(drawers);
        return x;
    }

    private static TillOptimists clerksBehindTill(TillOptimists x) {
        x.till(8);
        for (int c = 0; c < 6; c++) {
            x.clerk();
        }
        x.say(5, 2, 7, 7, 3);
        x.pay(7, 1);
        return x;
    }

    private static void tillAnswers() {
        holds("- drawers: how many drawers it has", () -> {
            for (int n = 1; n <= 8; n++) {
                TillOptimists x = new TillOptimists();
                x.till(n);
                due("pay to the last of " + n, x.pay(n - 1, 5), 0);
                int beyond = n;
                throwing("pay beyond the last of " + n, x, INDEX, y -> y.pay(beyond, 5));
            }
        });
        holds("Returns how many the one before had.", () -> {
            TillOptimists x = new TillOptimists();
            int before = 6;
            for (int n : new int[] {1, 1, 8, 8, 2, 7, 6}) {
                due("till(" + n + ")", x.till(n), before);
                before = n;
            }
        });
        holds("Throws IllegalArgumentException if drawers is not 1 to 8", () -> {
            due("till(1)", new TillOptimists().till(1), 6);
            due("till(8)", new TillOptimists().till(8), 6);
            for (Made state : new Made[] {States::bare, States::least, States::midway, States::full}) {
                refusedWith("till(#)", state, ARGUMENT, (x, n) -> x.till(n), 0, 9, -1, -8, LOW, HIGH);
            }
        });
    }

    private static void paying() {
        in("Promise 3");
        holds("Puts an amount into a drawer by hand", () -> {
            for (int d = 0; d < 8; d++) {
                TillOptimists x = States.tillWithClerks(8, 0);
                x.pay(d, 9999);
                for (int other = 0; other < 8; other++) {
                    drawerIs(x, other, other == d ? 9999 : 0, other == d ? 1 : 0);
                }
                x.pay(d, 0);
                drawerIs(x, d, 0, 2);
            }
        });
        holds(", which is a closing.", () -> {
            TillOptimists x = new TillOptimists();
            x.pay(2, 0);
            due("count(3) behind the first, of the same amount", x.count(3), 1);
            drawerIs(x, 2, 0, 1);
            closingIs(x, 0, -1, 1, 0);
            TillOptimists full = States.full();
            int closings = full.count(3);
            full.pay(7, 9999);
            due("count(3)", full.count(3), closings + 1);
            due("closing(0, 0)", full.closing(0, 0), -1);
            due("the seal", full.drawer(7, 1), closings + 1);
            TillOptimists reader = States.clerks(1);
            reader.say(0, 0, 5, 5, 0);
            reader.turn(0);
            reader.pay(5, 0);
            due("who has read it loses", reader.turn(0), 2);
        });
        payAnswers();
    }

    private static void payAnswers() {
        holds("- drawer: the drawer", () -> {
            TillOptimists x = new TillOptimists();
            due("pay(0, 3)", x.pay(0, 3), 0);
            due("pay(5, 4)", x.pay(5, 4), 0);
            drawerIs(x, 0, 3, 1);
            drawerIs(x, 5, 4, 2);
        });
        holds("- amount: its amount from now on", () -> {
            TillOptimists x = new TillOptimists();
            for (int amount : new int[] {0, 1, 9998, 9999, 0}) {
                x.pay(1, amount);
                due("drawer(1, 0)", x.drawer(1, 0), amount);
            }
        });
        holds("Returns the one before.", () -> {
            TillOptimists x = new TillOptimists();
            int before = 0;
            for (int amount : new int[] {9999, 9999, 0, 0, 1}) {
                due("pay(1, " + amount + ")", x.pay(1, amount), before);
                before = amount;
            }
            due("pay to another", x.pay(0, 5), 0);
        });
        holds("Throws IndexOutOfBoundsException if there is no such drawer", () -> {
            refusedWith("pay(#, 1) of 6", States::bare, INDEX, (x, d) -> x.pay(d, 1), -1, 6, 7, LOW, HIGH);
            refusedWith("pay(#, 1) of 1", States::least, INDEX, (x, d) -> x.pay(d, 1), -1, 1, 5);
            refusedWith("pay(#, 1) of 8", States::full, INDEX, (x, d) -> x.pay(d, 1), -1, 8, LOW, HIGH);
            refusedWith("pay(#, 10000)", States::full, INDEX, (x, d) -> x.pay(d, 10000), -1, 8);
            refusedWith("pay(#, -1)", States::full, INDEX, (x, d) -> x.pay(d, -1), -1, 8);
        });
        holds("Throws IllegalArgumentException if amount is not 0 to 9999", () -> {
            for (Made state : new Made[] {States::bare, States::least, States::midway, States::full}) {
                refusedWith("pay(0, #)", state, ARGUMENT, (x, a) -> x.pay(0, a), -1, 10000, -9999, LOW, HIGH);
            }
            due("pay(0, 0)", new TillOptimists().pay(0, 0), 0);
            due("pay(0, 9999)", new TillOptimists().pay(0, 9999), 0);
        });
    }

    public static void main(String[] args) {
        newObject();
        anotherTill();
        paying();
        end();
    }
}
