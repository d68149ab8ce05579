// Promises 36 to 40, and what section 5 says of ports: limits, EARLY ones, disciplines.
public final class PortsTest {
    private static final Check c = new Check("PortsTest");

    public static void main(String[] args) {
        promise36To40FirstCome();
        promise36To40AtB();
        promise36Limit();
        promise36FirstLimit();
        promise36Early();
        promise37ByClasses();
        promise39InTurns();
        promise39EachPortHasItsOwn();
        promise39TurnsBeginAnew(true);
        promise39TurnsBeginAnew(false);
        promise39SharesBeginAnew(true);
        promise39SharesBeginAnew(false);
        wrongNumbers();
        c.end();
    }

    // adds a flow of one packet from router 0
    private static int one(Switchyard x, int size, int ofClass, int tick) {
        int flow = x.addFlow(0, 9, size, ofClass);
        x.schedule(flow, tick, 1, 1);
        return flow;
    }

    private static void promise36To40FirstCome() {
        Switchyard x = NetworkTest.pair(50, 3);
        x.addFlow(0, 9, 120, 2);
        x.schedule(0, 1, 1, 3);
        int[][] due = {
            // waiting, sending, on the link, delivered behind the ticks 1 to 13
            {0, 70, 0, 0}, {120, 20, 0, 0}, {240, 0, 1, 0}, {120, 70, 1, 0}, {120, 20, 1, 0}, {120, 0, 1, 1},
            {0, 70, 1, 1}, {0, 20, 1, 1}, {0, 0, 1, 2}, {0, 0, 1, 2}, {0, 0, 1, 2}, {0, 0, 0, 3}, {0, 0, 0, 3},
        };
        for (int i = 0; i < due.length; i++) {
            x.step(1);
            c.same("36: waiting behind tick " + (1 + i), x.waiting(0, false), due[i][0]);
            c.same("37: queued behind tick " + (1 + i), x.queued(0, false, 2), due[i][0] / 120);
            c.same("37: of another class", x.queued(0, false, 1), 0);
            c.same("38: sending behind tick " + (1 + i), x.sending(0, false), due[i][1]);
            c.same("40: on the link behind tick " + (1 + i), x.onLink(0), due[i][2]);
            c.same("44: delivered behind tick " + (1 + i), x.delivered(0), due[i][3]);
            c.same("36: nothing at b", x.waiting(0, true) + x.sending(0, true), 0);
        }
        c.same("46: the latest", x.latest(0), 9);
        c.same("47: in the mean", x.meanLate(0), 7.0);
    }

    // A packet as large as the rate goes in one tick; smaller ones, too, but only one of them.
    private static void promise36To40AtB() {
        Switchyard x = NetworkTest.withRouters(2);
        x.addLink(1, 0, 1, 100, 20);
        x.addStatic(0, 0, 0, 0);
        x.addNetwork(1, 0, 0);
        x.addNetwork(0, 32768, 1);
        x.addStatic(1, 32768, 1, 0);
        x.step(1);
        one(x, 100, 0, 1);
        one(x, 30, 1, 1);
        one(x, 40, 1, 1);
        x.schedule(x.addFlow(1, 40000, 101, 0), 1, 1, 2);
        x.step(1);
        c.same("36: at b", x.waiting(0, true), 70);
        c.same("36: at a", x.waiting(0, false), 0);
        c.same("37: at b", x.queued(0, true, 1), 2);
        c.same("38: at b", x.sending(0, true), 0);
        c.same("38: at a", x.sending(0, false), 1);
        c.same("40: one", x.onLink(0), 1);
        x.step(1);
        c.same("36: at b", x.waiting(0, true), 40);
        c.same("40: both ways", x.onLink(0), 3);
        x.step(2);
        c.same("40: both ways", x.onLink(0), 5);
        x.step(16);
        c.same("40: until the delay of 20 is over", x.onLink(0), 5);
        x.step(1);
        c.same("44: delivered in tick 21", x.delivered(0), 1);
        c.same("40: four are left", x.onLink(0), 4);
    }

    private static void promise36Limit() {
        Switchyard x = NetworkTest.pair(1, 1);
        x.setPort(0, false, 0, 100, false);
        x.addFlow(0, 9, 50, 0);
        x.schedule(0, 1, 1, 4);
        x.step(1);
        c.same("36: what is sent does not wait", x.waiting(0, false), 0);
        x.step(2);
        c.same("36: just the limit", x.waiting(0, false), 100);
        c.same("45: none is dropped", x.dropped(0, 4), 0);
        x.step(1);
        c.same("36: not above it", x.waiting(0, false), 100);
        c.same("45: dropped for 4", x.dropped(0, 4), 1);
        c.same("45: it was not EARLY", x.dropped(0, 5), 0);
    }

    private static void promise36FirstLimit() {
        Switchyard x = NetworkTest.pair(1, 1);
        one(x, 500, 0, 1);
        for (int size : new int[] {500, 500, 500, 481}) {
            one(x, size, 0, 2);
        }
        int above = one(x, 20, 0, 3);
        int last = one(x, 20, 0, 502);
        x.step(3);
        c.same("36: 1981 wait", x.waiting(0, false), 1981);
        c.same("45: with 20 more it were 2001", x.dropped(above, 4), 1);
        for (int i = 0; i < 10; i++) {
            x.step(50);
        }
        c.same("45: then there is room", x.dropped(last, 4), 0);
        c.same("36: the next one is sent", x.waiting(0, false), 1481 + 20);
    }

    private static void promise36Early() {
        Switchyard x = NetworkTest.pair(1, 1);
        x.setPort(0, false, 0, 200, true);
        for (int i = 0; i < 3; i++) {
            x.addFlow(0, 9, 50, 0);
        }
        x.schedule(0, 1, 1, 6);
        x.schedule(1, 52, 1, 3);
        x.schedule(2, 102, 50, 3);
        x.step(5);
        c.same("45: two came as half of the limit waited", x.waiting(0, false), 200);
        x.step(1);
        c.same("45: above the limit, which does not count", x.dropped(0, 4), 1);
        x.step(46);
        c.same("45: the next one is sent", x.waiting(0, false), 150);
        x.step(1);
        c.same("45: the third one", x.dropped(1, 5), 1);
        x.step(2);
        c.same("45: the fourth one waits", x.waiting(0, false), 200);
        c.same("45: above the limit again", x.dropped(1, 4), 1);
        x.setPort(0, false, 0, 200, true);
        x.step(60);
        x.step(60);
        c.same("45: counted anew, two waited", x.dropped(2, 5), 0);
        x.step(30);
        c.same("45: the third one since setPort()", x.dropped(2, 5), 1);
        c.same("45: none for the limit", x.dropped(2, 4), 0);
    }

    private static void promise37ByClasses() {
        Switchyard x = NetworkTest.pair(200, 1);
        x.setPort(0, false, 1, 5000, false);
        int[] classes = {3, 1, 0, 1, 3, 2, 0};
        for (int i = 0; i < classes.length; i++) {
            one(x, 20 + i, classes[i], 1);
        }
        int[] bytes = {22, 26, 21, 23, 25, 20, 24};
        int left = 7 * 20 + 21;
        for (int i = 0; i < bytes.length; i++) {
            x.step(1);
            left -= bytes[i];
            c.same("37: the smallest class first, waiting behind tick " + (1 + i), x.waiting(0, false), left);
        }
        one(x, 60, 2, x.time());
        one(x, 60, 2, x.time());
        one(x, 60, 0, x.time());
        x.step(1);
        c.same("37: of the class 2", x.queued(0, false, 2), 2);
        c.same("37: of the class 0", x.queued(0, false, 0), 0);
        c.same("39: no deficits by classes", x.deficit(0, false, 0), 0);
    }

    // Class 0 has packets of 150, class 2 of 60; each gets 100 in its turn.
    private static void promise39InTurns() {
        Switchyard x = NetworkTest.pair(200, 1);
        x.setPort(0, false, 2, 5000, false);
        for (int i = 0; i < 3; i++) {
            one(x, 150, 0, 1);
        }
        for (int i = 0; i < 4; i++) {
            one(x, 60, 2, 1);
        }
        int[][] due = {
            // queued and deficit of class 0, then of class 2, behind the ticks 1 to 8
            {3, 100, 3, 40}, {2, 50, 3, 40}, {2, 50, 2, 80}, {2, 50, 1, 20},
            {1, 0, 1, 20}, {1, 0, 0, 60}, {0, 50, 0, 0}, {0, 50, 0, 0},
        };
        for (int i = 0; i < due.length; i++) {
            x.step(1);
            c.same("37: class 0 behind tick " + (1 + i), x.queued(0, false, 0), due[i][0]);
            c.same("39: class 0 behind tick " + (1 + i), x.deficit(0, false, 0), due[i][1]);
            c.same("37: class 2 behind tick " + (1 + i), x.queued(0, false, 2), due[i][2]);
            c.same("39: class 2 behind tick " + (1 + i), x.deficit(0, false, 2), due[i][3]);
        }
        one(x, 150, 0, x.time());
        x.step(1);
        c.same("39: what was left of class 0 counts", x.deficit(0, false, 0), 0);
        c.same("37: it was taken", x.queued(0, false, 0), 0);
        x.setWeight(0, false, 0, 4);
        one(x, 500, 0, x.time());
        x.step(1);
        c.same("39: two shares of 400", x.deficit(0, false, 0), 300);
    }

    private static void promise39EachPortHasItsOwn() {
        Switchyard x = NetworkTest.pair(200, 1);
        x.addNetwork(0, 40960, 3);
        x.addStatic(1, 40960, 3, 0);
        x.setPort(0, true, 2, 5000, false);
        x.schedule(x.addFlow(1, 40961, 30, 3), 2, 1, 1);
        x.step(2);
        c.same("39: at b", x.deficit(0, true, 3), 70);
        c.same("39: not at a", x.deficit(0, false, 3), 0);
        c.same("39: not of another class", x.deficit(0, true, 2), 0);
    }

    private static void beginAnew(Switchyard x, boolean isBySetPort) {
        if (isBySetPort) {
            x.setPort(0, false, 2, 5000, false);
        } else {
            x.setUp(0, false);
            x.setUp(0, true);
        }
    }

    // The turn was at class 3: then class 1 would have to wait for it.
    private static void promise39TurnsBeginAnew(boolean isBySetPort) {
        Switchyard x = NetworkTest.pair(200, 1);
        x.setPort(0, false, 2, 5000, false);
        one(x, 60, 3, 1);
        x.step(2);
        c.same("39: class 3 has its turn", x.deficit(0, false, 3), 40);
        beginAnew(x, isBySetPort);
        c.same("39: no deficit", x.deficit(0, false, 3), 0);
        one(x, 60, 3, x.time());
        one(x, 60, 1, x.time());
        x.step(1);
        c.same("39: class 1 comes first", x.queued(0, false, 1), 0);
        c.same("39: class 3 waits", x.queued(0, false, 3), 1);
    }

    // Class 0 had its share: if it still had, class 1 would come first.
    private static void promise39SharesBeginAnew(boolean isBySetPort) {
        Switchyard x = NetworkTest.pair(200, 1);
        x.setPort(0, false, 2, 5000, false);
        one(x, 60, 0, 1);
        x.step(2);
        beginAnew(x, isBySetPort);
        one(x, 60, 0, x.time());
        one(x, 60, 1, x.time());
        x.step(1);
        c.same("39: class 0 has a new share", x.deficit(0, false, 0), 40);
        c.same("39: class 1 waits", x.queued(0, false, 1), 1);
    }

    private static void wrongNumbers() {
        Switchyard x = NetworkTest.pair(200, 1);
        for (int wrong : new int[] {-1, 1, Integer.MIN_VALUE, Integer.MAX_VALUE}) {
            c.noSuch(x, "36: no link " + wrong, () -> x.waiting(wrong, true));
            c.noSuch(x, "37: no link " + wrong, () -> x.queued(wrong, true, 0));
            c.noSuch(x, "38: no link " + wrong, () -> x.sending(wrong, false));
            c.noSuch(x, "39: no link " + wrong, () -> x.deficit(wrong, false, 0));
            c.noSuch(x, "40: no link " + wrong, () -> x.onLink(wrong));
        }
        for (int wrong : new int[] {-1, 4}) {
            c.noSuch(x, "37: no class " + wrong, () -> x.queued(0, true, wrong));
            c.noSuch(x, "39: no class " + wrong, () -> x.deficit(0, true, wrong));
        }
        c.same("37: class 3", x.queued(0, true, 3), 0);
        c.same("39: class 3", x.deficit(0, true, 3), 0);
    }
}
