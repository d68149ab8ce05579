// Promises 12 to 22: flows, and how time goes by.
public final class FlowsTest {
    private static final Check c = new Check("FlowsTest");

    public static void main(String[] args) {
        promise12AddFlow();
        promise13Schedule();
        promise13WrongSchedules();
        promise14Shape();
        promise14WrongShapes();
        promise15Step();
        promise15OrderOfATick();
        promise15LifeOfAPacket();
        promise16To22Counts();
        c.end();
    }

    private static void promise12AddFlow() {
        Switchyard x = NetworkTest.withRouters(2);
        c.same("12: the least values", x.addFlow(0, 0, 20, 0), 0);
        c.same("12: the greatest values", x.addFlow(1, 65535, 500, 3), 1);
        c.noSuch(x, "12: no router -1", () -> x.addFlow(-1, 0, 20, 0));
        c.noSuch(x, "12: no router 2, and all wrong", () -> x.addFlow(2, -1, 0, 4));
        c.wrong(x, "12: address -1", () -> x.addFlow(0, -1, 20, 0));
        c.wrong(x, "12: address 65536", () -> x.addFlow(0, 65536, 20, 0));
        c.wrong(x, "12: size 19", () -> x.addFlow(0, 0, 19, 0));
        c.wrong(x, "12: size 501", () -> x.addFlow(0, 0, 501, 0));
        c.wrong(x, "12: class -1", () -> x.addFlow(0, 0, 20, -1));
        c.wrong(x, "12: class 4", () -> x.addFlow(0, 0, 20, 4));
        for (int i = 2; i < 12; i++) {
            c.same("12: addFlow()", x.addFlow(0, 0, 20, 0), i);
        }
        c.same("12: flows()", x.flows(), 12);
        c.notNow(x, "12: the thirteenth", () -> x.addFlow(0, 0, 20, 0));
        c.wrong(x, "12: wrong, and too many", () -> x.addFlow(0, 0, 0, 0));
        x.step(60);
        c.same("12: it offers nothing yet", x.offered(0) + x.offered(1), 0);
    }

    private static void promise13Schedule() {
        Switchyard x = NetworkTest.withRouters(1);
        for (int i = 0; i < 4; i++) {
            x.addFlow(0, 0, 20, 0);
        }
        x.step(10);
        c.same("13: from now on", x.schedule(0, 10, 1, 60), 69);
        c.same("13: at last", x.schedule(1, 5010, 50, 60), 5010 + 59 * 50);
        c.same("13: one packet", x.schedule(2, 12, 50, 1), 12);
        c.same("13: every third tick", x.schedule(3, 11, 3, 3), 17);
        c.notNow(x, "13: told once more", () -> x.schedule(0, 10, 1, 60));
        c.wrong(x, "13: told once more, and wrong", () -> x.schedule(0, 10, 0, 60));
        int[] due = {0, 1, 1, 1, 2, 2, 2, 3, 3, 3};
        for (int i = 0; i < due.length; i++) {
            c.same("13: offered ahead of tick " + x.time(), x.offered(0), i);
            x.step(1);
            c.same("13: every third tick, behind " + (10 + i), x.offered(3), due[i]);
            c.same("13: one packet, behind " + (10 + i), x.offered(2), i < 2 ? 0 : 1);
        }
        x.step(60);
        c.same("13: as many as it counts", x.offered(0), 60);
        for (int i = 0; i < 82; i++) {
            x.step(60);
        }
        c.same("13: the time", x.time(), 5000);
        c.same("13: not yet", x.offered(1), 0);
        x.step(10);
        c.same("13: not yet", x.offered(1), 0);
        x.step(1);
        c.same("13: now", x.offered(1), 1);
        x.step(49);
        c.same("13: not yet the next one", x.offered(1), 1);
        x.step(1);
        c.same("13: the next one", x.offered(1), 2);
    }

    private static void promise13WrongSchedules() {
        Switchyard x = NetworkTest.withRouters(1);
        x.addFlow(0, 0, 20, 0);
        x.step(10);
        c.noSuch(x, "13: no flow -1", () -> x.schedule(-1, 10, 1, 1));
        c.noSuch(x, "13: no flow 1, and all wrong", () -> x.schedule(1, 9, 0, 0));
        c.wrong(x, "13: start less than the time", () -> x.schedule(0, 9, 1, 1));
        c.wrong(x, "13: start 5001 above the time", () -> x.schedule(0, 5011, 1, 1));
        c.wrong(x, "13: the greatest int", () -> x.schedule(0, Integer.MAX_VALUE, 1, 1));
        c.wrong(x, "13: period 0", () -> x.schedule(0, 10, 0, 1));
        c.wrong(x, "13: period 51", () -> x.schedule(0, 10, 51, 1));
        c.wrong(x, "13: count 0", () -> x.schedule(0, 10, 1, 0));
        c.wrong(x, "13: count 61", () -> x.schedule(0, 10, 1, 61));
        c.same("13: it was not told by them", x.schedule(0, 10, 1, 1), 10);
    }

    private static void promise14Shape() {
        Switchyard x = NetworkTest.withRouters(1);
        x.addNetwork(0, 0, 0);
        x.addFlow(0, 0, 100, 0);
        x.step(1);
        c.same("14: not shaped", x.tokens(0), 0);
        c.same("14: none waits", x.shape(0, 30, 250), 0);
        c.same("14: as many as its burst", x.tokens(0), 250);
        x.step(1);
        c.same("14: not above its burst", x.tokens(0), 250);
        x.schedule(0, 2, 1, 8);
        int[] tokens = {150, 80, 10, 40, 70, 0, 30, 60};
        int[] waits = {0, 0, 0, 1, 2, 2, 3, 4};
        for (int i = 0; i < 8; i++) {
            x.step(1);
            c.same("14: tokens behind tick " + (2 + i), x.tokens(0), tokens[i]);
            c.same("14: waiting behind tick " + (2 + i), x.shaping(0), waits[i]);
        }
        c.same("14: those that went on", x.delivered(0), 4);
        c.same("14: shaped anew", x.shape(0, 1, 5000), 4);
        c.same("14: as many as its new burst", x.tokens(0), 5000);
        c.same("14: they wait until the tick", x.shaping(0), 4);
        x.step(1);
        c.same("14: all go on in one tick", x.delivered(0), 8);
        c.same("14: their sizes are taken", x.tokens(0), 4600);
        c.same("14: that of tick 6 was late most", x.latest(0), 10 - 6);
    }

    private static void promise14WrongShapes() {
        Switchyard x = NetworkTest.withRouters(1);
        x.addFlow(0, 0, 100, 0);
        c.noSuch(x, "14: no flow -1", () -> x.shape(-1, 1, 100));
        c.noSuch(x, "14: no flow 1, and all wrong", () -> x.shape(1, 0, 0));
        c.wrong(x, "14: rate 0", () -> x.shape(0, 0, 100));
        c.wrong(x, "14: rate 501", () -> x.shape(0, 501, 100));
        c.wrong(x, "14: burst less than the size", () -> x.shape(0, 1, 99));
        c.wrong(x, "14: burst 5001", () -> x.shape(0, 1, 5001));
        c.same("14: the greatest rate, the least burst", x.shape(0, 500, 100), 0);
        c.same("14: the least rate, the greatest burst", x.shape(0, 1, 5000), 0);
    }

    private static void promise15Step() {
        Switchyard x = new Switchyard();
        c.wrong(x, "15: 0 ticks", () -> x.step(0));
        c.wrong(x, "15: 61 ticks", () -> x.step(61));
        c.wrong(x, "15: -1 ticks", () -> x.step(-1));
        c.same("15: one tick", x.step(1), 1);
        c.same("15: 60 ticks", x.step(60), 61);
    }

    // Packets come ahead of new ones, and both are dealt with by the tables of the tick before.
    private static void promise15OrderOfATick() {
        Switchyard x = NetworkTest.withRouters(3);
        x.addLink(0, 1, 1, 200, 1);
        x.addLink(1, 2, 1, 1, 1);
        x.addNetwork(2, 0, 0);
        x.addStatic(0, 0, 0, 0);
        x.addStatic(1, 0, 0, 1);
        x.addFlow(1, 7, 20, 0);
        x.addFlow(0, 7, 30, 0);
        x.schedule(0, 0, 1, 3);
        x.schedule(1, 1, 1, 1);
        x.step(1);
        c.same("15: there was no table in tick 0", x.dropped(0, 1), 1);
        x.step(1);
        c.same("15: that of flow 1 is on the link", x.onLink(0), 1);
        x.step(1);
        c.same("15: sent is that of tick 1", x.sending(1, false), 18);
        x.step(18);
        c.same("15: nothing is sent behind it", x.sending(1, false), 0);
        x.step(1);
        c.same("15: then that which came by the link, as it came first", x.sending(1, false), 29);
    }

    // 0 and 1 send to each other what neither of them has.
    private static void promise15LifeOfAPacket() {
        Switchyard x = NetworkTest.withRouters(2);
        x.addLink(0, 1, 1, 200, 1);
        x.addStatic(0, 0, 0, 0);
        x.addStatic(1, 0, 0, 0);
        x.addFlow(0, 7, 20, 0);
        x.step(1);
        x.schedule(0, 1, 1, 1);
        x.step(11);
        // dealt with in the ticks 1 to 11, it has a life of 1 left
        c.same("15: it lives", x.dropped(0, 2), 0);
        c.same("15: it is on the link", x.onLink(0), 1);
        x.step(1);
        c.same("15: its life is over", x.dropped(0, 2), 1);
        c.same("15: it is gone", x.onLink(0), 0);
    }

    private static void promise16To22Counts() {
        Switchyard x = NetworkTest.withRouters(2);
        x.addLink(0, 1, 1, 200, 1);
        x.addLink(0, 1, 1, 200, 1);
        x.addLink(0, 1, 1, 200, 1);
        for (int i = 0; i < 4; i++) {
            x.addNetwork(0, i * 4096, 4);
        }
        for (int i = 0; i < 5; i++) {
            x.addStatic(0, 0, 0, 0);
        }
        for (int i = 0; i < 6; i++) {
            x.addFlow(0, 0, 20, 0);
        }
        x.step(7);
        c.same("16: time()", x.time(), 7);
        c.same("17: routers()", x.routers(), 2);
        c.same("18: links()", x.links(), 3);
        c.same("19: networks()", x.networks(), 4);
        c.same("20: statics()", x.statics(), 5);
        c.same("21: flows()", x.flows(), 6);
        x.setUp(1, false);
        c.same("22: isUp(0)", x.isUp(0), true);
        c.same("22: isUp(1)", x.isUp(1), false);
        c.same("22: isUp(2)", x.isUp(2), true);
        c.noSuch(x, "22: no link -1", () -> x.isUp(-1));
        c.noSuch(x, "22: no link 3", () -> x.isUp(3));
    }
}
