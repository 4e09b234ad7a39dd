import java.util.List;

/** All that the calls of an object tell, now and behind some calls more. */
final class Told {
    private static final List<Sentences.Call> GOING_ON = List.of(
        Told::goOnByTurns, Told::goOnByNewClerks, Told::goOnBySaying, Told::goOnByRounds, Told::goOnByDropping,
        Told::goOnByPaying, Told::goOnAnew);

    private Told() {
    }

    /** Each part asks an object of its own, so that none is called more often than the document promises. */
    static String all(Sentences.Made made) {
        StringBuilder told = new StringBuilder();
        tellStanding(made.make(), told);
        tellSlips(made.make(), told);
        tellSteps(made.make(), told);
        tellWouldBe(made.make(), told);
        for (Sentences.Call more : GOING_ON) {
            TillOptimists x = made.make();
            told.append(more.on(x)).append(' ');
            tell(x, told, y -> y.digest());
            tell(x, told, y -> y.until());
        }
        return told.toString();
    }

    private static void tell(TillOptimists x, StringBuilder told, Sentences.Call call) {
        told.append(Sentences.answer(x, call)).append(' ');
    }

    private static void tellStanding(TillOptimists x, StringBuilder told) {
        tellWhats(told, x, 7, w -> x.count(w));
        for (int d = 0; d < x.count(0); d++) {
            int drawer = d;
            tellWhats(told, x, 4, w -> x.drawer(drawer, w));
        }
        for (int b = 0; b < 10; b++) {
            int back = b;
            tellWhats(told, x, 3, w -> x.closing(back, w));
        }
        for (int c = 0; c < x.count(1); c++) {
            int clerk = c;
            tellWhats(told, x, 7, w -> x.told(clerk, w));
            tellWhats(told, x, x.count(1), b -> x.clash(clerk, b));
        }
        tell(x, told, y -> y.mean());
        tell(x, told, y -> y.advise());
        tell(x, told, y -> y.digest());
    }

    private static void tellSlips(TillOptimists x, StringBuilder told) {
        for (int c = 0; c < x.count(1); c++) {
            int clerk = c;
            for (int d = 0; d < x.count(0); d++) {
                int drawer = d;
                tellWhats(told, x, 3, w -> x.slip(clerk, drawer, w));
            }
        }
    }

    private static void tellSteps(TillOptimists x, StringBuilder told) {
        for (int c = 0; c < x.count(1); c++) {
            int clerk = c;
            for (int p = 0; p < x.told(c, 0); p++) {
                int place = p;
                tellWhats(told, x, 4, w -> x.step(clerk, place, w));
            }
        }
    }

    private static void tellWouldBe(TillOptimists x, StringBuilder told) {
        tell(x, told, y -> y.until());
        for (int c = 0; c < x.count(1); c++) {
            int clerk = c;
            tellWhats(told, x, x.count(0), d -> x.alone(clerk, d));
        }
        for (int rounds : new int[] {1, 2, 3, 9, 50}) {
            tellWhats(told, x, 7, w -> x.foresee(rounds, w));
        }
    }

    private interface Ask {
        Object what(int number);
    }

    private static void tellWhats(StringBuilder told, TillOptimists x, int howMany, Ask ask) {
        for (int w = 0; w < howMany; w++) {
            int what = w;
            tell(x, told, y -> ask.what(what));
        }
    }

    // ---- calls more.

    private static String goOnByTurns(TillOptimists x) {
        StringBuilder told = new StringBuilder();
        for (int i = 0; i < 10; i++) {
            for (int c = 0; c < 6; c++) {
                int clerk = c;
                tell(x, told, y -> y.turn(clerk));
            }
        }
        return told.toString();
    }

    private static String goOnByNewClerks(TillOptimists x) {
        StringBuilder told = new StringBuilder();
        for (int i = 0; i < 7; i++) {
            tell(x, told, y -> y.clerk());
        }
        return told.toString();
    }

    private static String goOnBySaying(TillOptimists x) {
        StringBuilder told = new StringBuilder();
        for (int c = 0; c < 6; c++) {
            int clerk = c;
            tell(x, told, y -> y.say(clerk, 2, 0, 0, 1));
            tell(x, told, y -> y.told(clerk, 0));
        }
        return told.toString();
    }

    private static String goOnByRounds(TillOptimists x) {
        StringBuilder told = new StringBuilder();
        for (int rounds : new int[] {1, 2, 50}) {
            tell(x, told, y -> y.pass(rounds));
            tell(x, told, y -> y.digest());
        }
        return told.toString();
    }

    private static String goOnByDropping(TillOptimists x) {
        StringBuilder told = new StringBuilder();
        for (int c = 0; c < 6; c++) {
            int clerk = c;
            tell(x, told, y -> y.drop(clerk));
        }
        tell(x, told, y -> y.until());
        tell(x, told, y -> y.pass(50));
        return told.toString();
    }

    private static String goOnByPaying(TillOptimists x) {
        StringBuilder told = new StringBuilder();
        for (int d = 0; d < 8; d++) {
            int drawer = d;
            tell(x, told, y -> y.pay(drawer, 7 + drawer));
        }
        tell(x, told, y -> y.pass(1));
        return told.toString();
    }

    private static String goOnAnew(TillOptimists x) {
        StringBuilder told = new StringBuilder();
        tell(x, told, y -> y.till(8));
        tell(x, told, y -> y.digest());
        tell(x, told, y -> y.clerk());
        return told.toString();
    }
}
