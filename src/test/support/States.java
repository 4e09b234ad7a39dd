/** Objects at the edges of what there can be: nothing there, the least, midway, and all places taken. */
final class States {
    static final int CALLS_OF_MIDWAY = 16;
    static final int CALLS_OF_FULL = 100;

    private States() {
    }

    /** Six drawers, no clerk, no closing. */
    static TillOptimists bare() {
        return new TillOptimists();
    }

    /** One drawer, one clerk with one step, no closing. */
    static TillOptimists least() {
        TillOptimists x = new TillOptimists();
        x.till(1);
        x.clerk();
        x.say(0, 2, 0, 0, 1);
        return x;
    }

    /** Six drawers; clerk 0 at work, 1 without steps, 2 done, 3 at its end and about to lose. */
    static TillOptimists midway() {
        TillOptimists x = clerks(4);
        x.pay(0, 100);
        x.pay(5, 9999);
        x.say(0, 3, 0, 1, 30);
        x.say(0, 2, 5, 5, 4);
        x.say(2, 1, 2, 2, 17);
        x.say(3, 0, 2, 2, 0);
        x.say(3, 1, 1, 1, 3);
        x.turn(0);
        x.turn(3);
        x.turn(3);
        x.turn(2);
        x.turn(2);
        return x;
    }

    /** Eight drawers, six clerks of eight steps at different places, one done, one who lost, thirteen closings. */
    static TillOptimists full() {
        TillOptimists x = new TillOptimists();
        x.till(8);
        for (int c = 0; c < 6; c++) {
            x.clerk();
            for (int i = 0; i < 8; i++) {
                int d = (c + i) % 8;
                x.say(c, (c + i) % 4, d, (d + 3) % 8, 11 * i + c + 1);
            }
        }
        for (int i = 0; i < 8; i++) {
            x.pay(i, 1000 * i + 999);
        }
        turns(x, 0, 8);
        x.pay(0, 1);
        turns(x, 0, 1);
        for (int c = 0; c < 5; c++) {
            turns(x, c, c + 1);
        }
        turns(x, 5, 9);
        x.pay(7, 1);
        x.pay(2, 5000);
        x.pay(1, 0);
        return x;
    }

    static TillOptimists clerks(int howMany) {
        TillOptimists x = new TillOptimists();
        for (int c = 0; c < howMany; c++) {
            x.clerk();
        }
        return x;
    }

    static TillOptimists tillWithClerks(int drawers, int howMany) {
        TillOptimists x = new TillOptimists();
        x.till(drawers);
        for (int c = 0; c < howMany; c++) {
            x.clerk();
        }
        return x;
    }

    private static void turns(TillOptimists x, int clerk, int howMany) {
        for (int i = 0; i < howMany; i++) {
            x.turn(clerk);
        }
    }
}
