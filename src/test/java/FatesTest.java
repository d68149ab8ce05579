import java.util.function.IntConsumer;

// Promises 41 to 48: what became of the packets of flows.
public final class FatesTest {
    private static final Check c = new Check("FatesTest");

    public static void main(String[] args) {
        promise41To43Shaper();
        promise42TenAtOnce();
        promise44Delivered();
        promise45NoEntryAndDown();
        promise45DownOfALearnedEntry();
        promise46To48OutOfOrder();
        promise48TwoInOneTick();
        wrongNumbers();
        c.end();
    }

    private static void promise41To43Shaper() {
        Switchyard x = NetworkTest.withRouters(1);
        x.addNetwork(0, 0, 0);
        x.addFlow(0, 9, 100, 0);
        x.step(1);
        x.shape(0, 1, 100);
        x.schedule(0, 1, 1, 15);
        x.step(11);
        c.same("42: one went on, ten wait", x.shaping(0), 10);
        c.same("45: none is dropped yet", x.dropped(0, 0), 0);
        c.same("43: tokens", x.tokens(0), 10);
        x.step(1);
        c.same("45: the shaper is full", x.dropped(0, 0), 1);
        c.same("41: it was offered all the same", x.offered(0), 12);
        x.step(10);
        c.same("41: all were offered", x.offered(0), 15);
        c.same("45: dropped by the shaper", x.dropped(0, 0), 4);
        c.same("44: delivered", x.delivered(0), 1);
        x.step(60);
        x.step(18);
        c.same("43: one token is missing", x.tokens(0), 99);
        x.step(1);
        c.same("43: they are taken", x.tokens(0), 0);
        c.same("42: nine wait", x.shaping(0), 9);
        c.same("46: that of tick 2", x.latest(0), 101 - 2);
        c.same("47: in the mean", x.meanLate(0), 49.5);
        x.shape(0, 1, 5000);
        x.step(1);
        c.same("44: all nine go on in one tick", x.delivered(0), 11);
        c.same("42: none waits", x.shaping(0), 0);
    }

    private static void promise42TenAtOnce() {
        Switchyard x = NetworkTest.withRouters(1);
        x.addNetwork(0, 0, 0);
        x.addFlow(0, 9, 20, 0);
        x.addFlow(0, 9, 500, 0);
        x.step(1);
        x.shape(1, 1, 500);
        x.schedule(1, 1, 1, 11);
        x.step(11);
        c.same("42: ten wait", x.shaping(1), 10);
        c.same("49: ahead none has enough tokens", x.deliveredIn(1, 60), 1);
        x.shape(1, 1, 5000);
        c.same("49: ahead all have", x.deliveredIn(1, 1), 11);
        x.step(1);
        c.same("44: all ten go on in one tick", x.delivered(1), 11);
        c.same("43: all tokens are taken", x.tokens(1), 0);
    }

    private static void promise44Delivered() {
        Switchyard x = NetworkTest.withRouters(1);
        x.addNetwork(0, 0, 0);
        x.addFlow(0, 9, 100, 0);
        x.addFlow(0, 9, 100, 0);
        x.step(1);
        c.same("46: none was DELIVERED", x.latest(0), -1);
        c.same("47: none was DELIVERED", x.meanLate(0), 0.0);
        c.same("48: none was DELIVERED", x.outOfOrder(0), 0);
        x.schedule(0, 1, 2, 3);
        x.step(5);
        c.same("44: where they begin", x.delivered(0), 3);
        c.same("46: at once", x.latest(0), 0);
        c.same("47: at once", x.meanLate(0), 0.0);
        c.same("44: another flow", x.delivered(1), 0);
        c.same("41: another flow", x.offered(1), 0);
    }

    private static void promise45NoEntryAndDown() {
        Switchyard x = NetworkTest.pair(200, 1);
        x.addFlow(0, 9, 20, 0);
        x.schedule(0, 1, 1, 5);
        x.step(1);
        x.setUp(0, false);
        c.same("45: on the link", x.dropped(0, 6), 1);
        x.step(1);
        c.same("45: by the table of the tick before, the link is DOWN", x.dropped(0, 3), 1);
        x.step(1);
        c.same("45: by the new table nothing is found", x.dropped(0, 1), 1);
        x.setUp(0, true);
        x.step(1);
        c.same("45: not yet again", x.dropped(0, 1), 2);
        x.step(2);
        c.same("44: then it goes", x.delivered(0), 1);
        int sum = 0;
        for (int reason = 0; reason < 7; reason++) {
            sum += x.dropped(0, reason);
        }
        c.same("45: all reasons", sum, 4);
        c.same("41: all packets", x.offered(0), 5);
    }

    private static void promise45DownOfALearnedEntry() {
        Switchyard x = NetworkTest.withRouters(2);
        x.addLink(0, 1, 1, 200, 1);
        x.addNetwork(1, 0, 0);
        x.addFlow(0, 9, 20, 0);
        x.step(5);
        x.schedule(0, 5, 1, 2);
        x.setUp(0, false);
        x.step(1);
        c.same("45: the link of a learned entry", x.dropped(0, 3), 1);
        x.step(1);
        c.same("45: nothing is found", x.dropped(0, 1), 1);
    }

    // The packets 0 to 3 go by the slow link, 4 and 5 by the fast one.
    private static void promise46To48OutOfOrder() {
        Switchyard x = NetworkTest.withRouters(2);
        x.addLink(0, 1, 1, 200, 20);
        x.addLink(0, 1, 1, 200, 1);
        x.addNetwork(1, 0, 0);
        x.addStatic(0, 0, 0, 0);
        x.addFlow(0, 9, 20, 0);
        x.schedule(0, 1, 1, 6);
        x.step(4);
        x.dropStatic(0);
        x.addStatic(0, 0, 0, 1);
        x.step(4);
        c.same("44: the last ones came", x.delivered(0), 2);
        c.same("48: they are not OUT OF ORDER", x.outOfOrder(0), 0);
        c.same("46: late", x.latest(0), 1);
        x.step(14);
        c.same("48: the first one is", x.outOfOrder(0), 1);
        x.step(3);
        c.same("44: all came", x.delivered(0), 6);
        c.same("48: four are", x.outOfOrder(0), 4);
        c.same("46: the latest", x.latest(0), 20);
        c.same("47: in the mean", x.meanLate(0), 82.0 / 6);
    }

    // Packet 0 goes by the slow link, packet 1 a tick later by the fast one: both come in the same tick, link by link.
    private static void promise48TwoInOneTick() {
        for (int slow = 0; slow < 2; slow++) {
            Switchyard x = NetworkTest.withRouters(2);
            x.addLink(0, 1, 1, 200, slow == 0 ? 3 : 2);
            x.addLink(0, 1, 1, 200, slow == 0 ? 2 : 3);
            x.addNetwork(1, 0, 0);
            x.addStatic(0, 0, 0, slow);
            x.addStatic(0, 0, 0, 1 - slow);
            x.addFlow(0, 9, 20, 0);
            x.schedule(0, 1, 1, 2);
            x.step(1);
            x.dropStatic(0);
            x.step(2);
            c.same("40: one by the link 0", x.onLink(0), 1);
            c.same("40: one by the link 1", x.onLink(1), 1);
            x.step(1);
            c.same("44: none came yet", x.delivered(0), 0);
            x.step(1);
            c.same("44: both came", x.delivered(0), 2);
            c.same("48: the slow one is link " + slow, x.outOfOrder(0), slow);
        }
    }

    private static void wrongNumbers() {
        Switchyard x = NetworkTest.pair(200, 1);
        x.addFlow(0, 9, 20, 0);
        for (int wrong : new int[] {-1, 1, Integer.MIN_VALUE, Integer.MAX_VALUE}) {
            refuseFlow(x, 41, x::offered, wrong);
            refuseFlow(x, 42, x::shaping, wrong);
            refuseFlow(x, 43, x::tokens, wrong);
            refuseFlow(x, 44, x::delivered, wrong);
            refuseFlow(x, 45, flow -> x.dropped(flow, 0), wrong);
            refuseFlow(x, 46, x::latest, wrong);
            refuseFlow(x, 47, x::meanLate, wrong);
            refuseFlow(x, 48, x::outOfOrder, wrong);
        }
        c.noSuch(x, "45: no reason -1", () -> x.dropped(0, -1));
        c.noSuch(x, "45: no reason 7", () -> x.dropped(0, 7));
        c.same("45: reason 6", x.dropped(0, 6), 0);
    }

    private static void refuseFlow(Switchyard x, int promise, IntConsumer call, int flow) {
        c.noSuch(x, promise + ": no flow " + flow, () -> call.accept(flow));
    }
}
