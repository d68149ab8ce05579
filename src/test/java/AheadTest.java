// Promises 49 to 51: what would be, and the checksum.
public final class AheadTest {
    private static final Check c = new Check("AheadTest");

    public static void main(String[] args) {
        promise49DeliveredIn();
        promise49AllStates();
        promise49WholeMinute();
        promise49WrongNumbers();
        promise50SettledIn();
        promise50WrongNumbers();
        promise51DigestOfNothing();
        promise51Digest();
        c.end();
    }

    private static void promise49DeliveredIn() {
        Switchyard x = NetworkTest.pair(50, 3);
        x.addFlow(0, 9, 120, 2);
        x.schedule(0, 1, 1, 3);
        int[] due = {0, 0, 0, 0, 0, 1, 1, 1, 2, 2, 2, 3, 3};
        for (int i = 0; i < due.length; i++) {
            c.same("49: in " + (i + 1) + " ticks", x.deliveredIn(0, i + 1), due[i]);
        }
        c.same("49: in 60 ticks", x.deliveredIn(0, 60), 3);
        c.same("49: nothing is changed", x.time() + x.offered(0) + x.delivered(0), 1);
        x.step(5);
        c.same("49: in one more", x.deliveredIn(0, 1), 1);
    }

    // a network with nearly all that there is: disciplines, shapers, EARLY ports, letters on their way, failing links
    private static Switchyard busy() {
        Switchyard x = NetworkTest.withRouters(4);
        x.addLink(0, 1, 2, 60, 2);
        x.addLink(1, 2, 2, 40, 3);
        x.addLink(2, 3, 2, 90, 4);
        x.addLink(3, 0, 2, 30, 5);
        x.addLink(0, 1, 2, 20, 7);
        x.addNetwork(2, 0, 1);
        x.addNetwork(3, 32768, 1);
        x.addStatic(1, 32768, 3, 1);
        x.setPort(0, false, 2, 600, true);
        x.setPort(1, false, 1, 900, true);
        x.setPort(3, true, 2, 700, true);
        x.setWeight(0, false, 2, 3);
        x.setWeight(3, true, 1, 2);
        for (int i = 0; i < 8; i++) {
            x.addFlow(i % 2, i % 3 == 0 ? 40000 : 77, 50 + 30 * i, i % 4);
            x.schedule(i, 3 + i, 1 + i % 3, 40);
        }
        x.shape(1, 20, 300);
        x.shape(4, 60, 170);
        return x;
    }

    // what changes ahead of some ticks, and the tick
    private static void goOn(Switchyard x, int tick) {
        if (tick == 20 || tick == 60) {
            x.setUp(0, false);
        }
        if (tick == 30) {
            x.setUp(0, true);
            x.setCost(3, 9);
        }
        if (tick == 40) {
            x.dropNetwork(0);
            x.addNetwork(0, 0, 1);
            x.setPort(1, false, 2, 5000, false);
        }
        x.step(1);
    }

    // what was told ahead in each tick, for all flows, against what came true; calls leave no trace
    private static void promise49AllStates() {
        Switchyard x = busy();
        Switchyard silent = busy();
        for (int tick = 0; tick < 90; tick++) {
            int[] ahead = new int[8];
            for (int flow = 0; flow < 8; flow++) {
                ahead[flow] = x.deliveredIn(flow, 1);
                c.count(x.deliveredIn(flow, 60) >= ahead[flow], "49: more ticks tell no less");
            }
            int settled = x.settledIn(1 + tick % 60);
            goOn(x, tick);
            goOn(silent, tick);
            c.same("49: nothing is changed in tick " + tick, x.digest(), silent.digest());
            boolean isSame = tick != 20 && tick != 30 && tick != 40 && tick != 60;
            for (int flow = 0; flow < 8 && isSame; flow++) {
                c.same("49: flow " + flow + " in tick " + tick, ahead[flow], x.delivered(flow));
            }
            if (isSame) {
                c.same("50: settled behind tick " + tick, x.isSettled(), settled == 0 || settled == 1);
            }
        }
        int delivered = 0;
        int early = 0;
        for (int flow = 0; flow < 8; flow++) {
            delivered += x.delivered(flow);
            early += x.dropped(flow, 5);
        }
        c.count(delivered > 30 && early > 0, "49: there was something to tell: " + delivered + ", " + early);
    }

    // at several times what is told of each of the next 60 ticks, against what then comes true
    private static void promise49WholeMinute() {
        for (int start : new int[] {0, 5, 12, 21, 31, 35, 41, 50, 61}) {
            Switchyard x = busy();
            for (int tick = 0; tick < start; tick++) {
                goOn(x, tick);
            }
            int[][] ahead = new int[8][61];
            for (int flow = 0; flow < 8; flow++) {
                for (int ticks = 1; ticks <= 60; ticks++) {
                    ahead[flow][ticks] = x.deliveredIn(flow, ticks);
                }
            }
            int settled = x.settledIn(60);
            c.same("50: at " + start, settled == 0, x.isSettled());
            for (int ticks = 1; ticks <= 60; ticks++) {
                x.step(1);
                for (int flow = 0; flow < 8; flow++) {
                    c.same("49: flow " + flow + " at " + start + " in " + ticks, ahead[flow][ticks], x.delivered(flow));
                }
                c.count(ticks > settled || (ticks == settled) == x.isSettled(), "50: at " + start + " in " + ticks);
            }
        }
    }

    private static void promise49WrongNumbers() {
        Switchyard x = NetworkTest.pair(50, 3);
        x.addFlow(0, 9, 120, 2);
        c.noSuch(x, "49: no flow -1", () -> x.deliveredIn(-1, 1));
        c.noSuch(x, "49: no flow 1, and no ticks", () -> x.deliveredIn(1, 0));
        c.wrong(x, "49: 0 ticks", () -> x.deliveredIn(0, 0));
        c.wrong(x, "49: 61 ticks", () -> x.deliveredIn(0, 61));
        c.wrong(x, "49: -1 ticks", () -> x.deliveredIn(0, -1));
        c.same("49: one tick", x.deliveredIn(0, 1), 0);
    }

    private static void promise50SettledIn() {
        Switchyard x = NetworkTest.withRouters(3);
        c.same("50: none is on its way", x.settledIn(1), 0);
        x.addLink(0, 1, 1, 1, 4);
        x.addLink(1, 2, 1, 1, 6);
        // the last one: that of 2 comes to 1 in the tick 6, and goes on to 0, where it comes in the tick 10;
        // that of 0 comes to 1 in the tick 4, and to 2 in the tick 10
        c.same("50: behind tick 10", x.settledIn(60), 11);
        c.same("50: just as many", x.settledIn(11), 11);
        c.same("50: not as early", x.settledIn(10), -1);
        c.same("50: not as early", x.settledIn(1), -1);
        c.same("50: nothing is changed", x.time() + x.letterOf(1, 0), 0);
        x.step(10);
        c.same("50: one is left", x.settledIn(1), 1);
        x.step(1);
        c.same("50: none is left", x.settledIn(60), 0);
    }

    private static void promise50WrongNumbers() {
        Switchyard x = NetworkTest.withRouters(2);
        c.wrong(x, "50: 0 ticks, though none is on its way", () -> x.settledIn(0));
        x.addLink(0, 1, 1, 1, 1);
        c.wrong(x, "50: 0 ticks", () -> x.settledIn(0));
        c.wrong(x, "50: 61 ticks", () -> x.settledIn(61));
        c.wrong(x, "50: the least int", () -> x.settledIn(Integer.MIN_VALUE));
    }

    private static void promise51DigestOfNothing() {
        long d = 58026;
        for (int i = 0; i < 7; i++) {
            d *= 31;
        }
        c.same("51: of a new object", new Switchyard().digest(), d);
        Switchyard x = new Switchyard();
        x.addRouter();
        // time 0, one router, five counts of 0; then letter 0, distance 0, no first links, no entries, one node, depth 1
        long e = 58026L * 31 * 31 + 1;
        for (int i = 0; i < 5 + 4; i++) {
            e *= 31;
        }
        e = (e * 31 + 1) * 31 + 1;
        c.same("51: of one router", x.digest(), e);
    }

    private static void promise51Digest() {
        Switchyard x = busy();
        c.same("51: at first", x.digest(), digestOf(x));
        for (int tick = 0; tick < 90; tick++) {
            goOn(x, tick);
            c.same("51: behind tick " + tick, x.digest(), digestOf(x));
        }
        c.same("51: it changes nothing", x.digest(), x.digest());
    }

    private static long digestOf(Switchyard x) {
        long d = 58026;
        int[] counts = {x.time(), x.routers(), x.links(), x.networks(), x.statics(), x.flows(), x.letters()};
        for (int count : counts) {
            d = d * 31 + count;
        }
        for (int r = 0; r < x.routers(); r++) {
            for (int of = 0; of < x.routers(); of++) {
                d = ((d * 31 + x.letterOf(r, of)) * 31 + x.distance(r, of)) * 31 + x.firstLinks(r, of);
            }
            d = ((d * 31 + x.entries(r)) * 31 + x.trieNodes(r)) * 31 + x.trieDepth(r);
        }
        for (int l = 0; l < x.links(); l++) {
            d = (d * 31 + (x.isUp(l) ? 1 : 0)) * 31 + x.onLink(l);
            for (int end = 0; end < 2; end++) {
                d = (d * 31 + x.waiting(l, end == 1)) * 31 + x.sending(l, end == 1);
                for (int of = 0; of < 4; of++) {
                    d = (d * 31 + x.queued(l, end == 1, of)) * 31 + x.deficit(l, end == 1, of);
                }
            }
        }
        for (int f = 0; f < x.flows(); f++) {
            d = (((d * 31 + x.offered(f)) * 31 + x.shaping(f)) * 31 + x.tokens(f)) * 31 + x.delivered(f);
            for (int reason = 0; reason < 7; reason++) {
                d = d * 31 + x.dropped(f, reason);
            }
            d = ((d * 31 + x.latest(f)) * 31 + x.outOfOrder(f)) * 31 + x.route(f);
            for (int r = 0; r < x.routers(); r++) {
                d = d * 31 + x.nextLink(r, f);
            }
        }
        return d;
    }
}
