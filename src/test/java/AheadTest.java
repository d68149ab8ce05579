import java.math.BigInteger;
import java.util.ArrayList;
import java.util.List;

// Promises 49 to 51: what would be, and the checksum.
public final class AheadTest {
    private static final Check c = new Check("AheadTest");

    public static void main(String[] args) {
        promise49DeliveredIn();
        promise49AllStates();
        promise49WholeMinute();
        promise49NetworksOfNow();
        promise49StaticsOfNow();
        promise49And50FullNetwork();
        promise49WrongNumbers();
        promise50SettledIn();
        promise50ManyLetters();
        promise50WrongNumbers();
        promise51DigestOfNothing();
        promise51Digest();
        promise51WrapsAround();
        c.end();
    }

    private static void promise49DeliveredIn() {
        Switchyard x = NetworkTest.pair(50, 3);
        x.addFlow(0, 9, 120, 2);
        x.schedule(0, 1, 1, 3);
        int[] due = {0, 0, 0, 0, 0, 1, 1, 1, 2, 2, 2, 3, 3};
        for (int i = 0; i < due.length; i++) {
            c.same("49: in " + (i + 1) + " ticks", x.deliveredIn(0, i + 1), due[i]);
        }
        c.same("49: in 60 ticks", x.deliveredIn(0, 60), 3);
        c.same("49: nothing is changed", x.time() + x.offered(0) + x.delivered(0), 1);
        x.step(5);
        c.same("49: in one more", x.deliveredIn(0, 1), 1);
    }

    // a network with nearly all that there is: disciplines, shapers, EARLY ports, letters on their way, failing links
    static Switchyard busy() {
        Switchyard x = NetworkTest.withRouters(4);
        x.addLink(0, 1, 2, 60, 2);
        x.addLink(1, 2, 2, 40, 3);
        x.addLink(2, 3, 2, 90, 4);
        x.addLink(3, 0, 2, 30, 5);
        x.addLink(0, 1, 2, 20, 7);
        x.addNetwork(2, 0, 1);
        x.addNetwork(3, 32768, 1);
        x.addStatic(1, 32768, 3, 1);
        x.setPort(0, false, 2, 600, true);
        x.setPort(1, false, 1, 900, true);
        x.setPort(3, true, 2, 700, true);
        x.setWeight(0, false, 2, 3);
        x.setWeight(3, true, 1, 2);
        for (int i = 0; i < 8; i++) {
            x.addFlow(i % 2, i % 3 == 0 ? 40000 : 77, 50 + 30 * i, i % 4);
            x.schedule(i, 3 + i, 1 + i % 3, 40);
        }
        x.shape(1, 20, 300);
        x.shape(4, 60, 170);
        return x;
    }

    // what changes ahead of some ticks
    private static void change(Switchyard x, int tick) {
        if (tick == 20 || tick == 60) {
            x.setUp(0, false);
        }
        if (tick == 30) {
            x.setUp(0, true);
            x.setCost(3, 9);
        }
        if (tick == 40) {
            x.dropNetwork(0);
            x.addNetwork(0, 0, 1);
            x.setPort(1, false, 2, 5000, false);
        }
    }

    static void goOn(Switchyard x, int tick) {
        change(x, tick);
        x.step(1);
    }

    // what was told ahead in each tick, for all flows, against what came true; calls leave no trace
    private static void promise49AllStates() {
        Switchyard x = busy();
        Switchyard silent = busy();
        for (int tick = 0; tick < 90; tick++) {
            for (int flow = 0; flow < 8; flow++) {
                c.count(x.deliveredIn(flow, 60) >= x.deliveredIn(flow, 1), "49: more ticks tell no less");
            }
            change(x, tick);
            int[] ahead = new int[8];
            for (int flow = 0; flow < 8; flow++) {
                ahead[flow] = x.deliveredIn(flow, 1);
            }
            int settled = x.settledIn(1 + tick % 60);
            x.step(1);
            goOn(silent, tick);
            c.same("49: nothing is changed in tick " + tick, x.digest(), silent.digest());
            for (int flow = 0; flow < 8; flow++) {
                c.same("49: flow " + flow + " in tick " + tick, ahead[flow], x.delivered(flow));
            }
            c.same("50: settled behind tick " + tick, x.isSettled(), settled == 0 || settled == 1);
        }
        int delivered = 0;
        int early = 0;
        for (int flow = 0; flow < 8; flow++) {
            delivered += x.delivered(flow);
            early += x.dropped(flow, 5);
        }
        c.count(delivered > 30 && early > 0, "49: there was something to tell: " + delivered + ", " + early);
    }

    // at several times what is told of each of the next 60 ticks, against what then comes true
    private static void promise49WholeMinute() {
        for (int start : new int[] {0, 5, 12, 21, 31, 35, 41, 50, 61}) {
            Switchyard x = busy();
            for (int tick = 0; tick < start; tick++) {
                goOn(x, tick);
            }
            int[][] ahead = new int[8][61];
            for (int flow = 0; flow < 8; flow++) {
                for (int ticks = 1; ticks <= 60; ticks++) {
                    ahead[flow][ticks] = x.deliveredIn(flow, ticks);
                }
            }
            int settled = x.settledIn(60);
            c.same("50: at " + start, settled == 0, x.isSettled());
            for (int ticks = 1; ticks <= 60; ticks++) {
                x.step(1);
                for (int flow = 0; flow < 8; flow++) {
                    c.same("49: flow " + flow + " at " + start + " in " + ticks, ahead[flow][ticks], x.delivered(flow));
                }
                c.count(ticks > settled || (ticks == settled) == x.isSettled(), "50: at " + start + " in " + ticks);
            }
        }
    }

    // what was told or taken away since the last tick counts ahead, too
    private static void promise49NetworksOfNow() {
        Switchyard x = NetworkTest.withRouters(1);
        x.addFlow(0, 40000, 20, 0);
        x.schedule(0, 0, 1, 9);
        c.same("49: no network", x.deliveredIn(0, 5), 0);
        x.addNetwork(0, 0, 1);
        c.same("49: one that does not fit", x.deliveredIn(0, 5), 0);
        x.addNetwork(0, 32768, 1);
        c.same("49: one that fits, behind the tick 0", x.deliveredIn(0, 5), 4);
        c.same("49: not in the tick 0", x.deliveredIn(0, 1), 0);
        x.dropNetwork(1);
        c.same("49: it is gone again", x.deliveredIn(0, 5), 0);
    }

    private static void promise49StaticsOfNow() {
        Switchyard x = NetworkTest.withRouters(2);
        x.addLink(0, 1, 1, 200, 1);
        x.addFlow(0, 40000, 20, 0);
        x.addNetwork(1, 32768, 1);
        x.addNetwork(1, 40960, 16);
        x.dropNetwork(0);
        x.step(9);
        x.schedule(0, 9, 1, 9);
        x.addStatic(0, 0, 1, 0);
        c.same("49: a static route that does not fit", x.deliveredIn(0, 9), 0);
        x.addStatic(0, 32768, 1, 0);
        c.same("49: nothing is found behind it", x.deliveredIn(0, 9), 0);
        x.addNetwork(1, 40000, 16);
        // offered from the tick 10 on, each comes a tick later
        c.same("49: now it is", x.deliveredIn(0, 9), 7);
        x.dropStatic(1);
        // the letter with the network comes in the tick 10
        c.same("49: it is learned, too", x.deliveredIn(0, 9), 6);
        x.dropNetwork(1);
        c.same("49: it is gone again", x.deliveredIn(0, 9), 0);
    }

    private static void promise49And50FullNetwork() {
        Switchyard x = CallEdgesTest.full();
        for (int i = 0; i < 12; i++) {
            x.schedule(i, 20, 1, 60);
        }
        x.setUp(13, false);
        x.step(30);
        x.setCost(12, 2);
        int settled = x.settledIn(60);
        int[] ahead = new int[12];
        for (int i = 0; i < 12; i++) {
            ahead[i] = x.deliveredIn(i, 60);
        }
        for (int ticks = 1; ticks <= 60; ticks++) {
            x.step(1);
            c.count(ticks > settled || (ticks == settled) == x.isSettled(), "50: of a full network in " + ticks);
        }
        for (int i = 0; i < 12; i++) {
            c.same("49: of a full network, flow " + i, ahead[i], x.delivered(i));
        }
        c.count(ahead[0] + ahead[1] > 0 && settled > 1, "49: there was something to tell");
    }

    private static void promise49WrongNumbers() {
        Switchyard x = NetworkTest.pair(50, 3);
        x.addFlow(0, 9, 120, 2);
        c.noSuch(x, "49: no flow -1", () -> x.deliveredIn(-1, 1));
        c.noSuch(x, "49: no flow 1, and no ticks", () -> x.deliveredIn(1, 0));
        c.wrong(x, "49: 0 ticks", () -> x.deliveredIn(0, 0));
        c.wrong(x, "49: 61 ticks", () -> x.deliveredIn(0, 61));
        c.wrong(x, "49: -1 ticks", () -> x.deliveredIn(0, -1));
        c.same("49: one tick", x.deliveredIn(0, 1), 0);
    }

    private static void promise50SettledIn() {
        Switchyard x = NetworkTest.withRouters(3);
        c.same("50: none is on its way", x.settledIn(1), 0);
        x.addLink(0, 1, 1, 1, 4);
        x.addLink(1, 2, 1, 1, 6);
        // the last one: that of 2 comes to 1 in the tick 6, and goes on to 0, where it comes in the tick 10;
        // that of 0 comes to 1 in the tick 4, and to 2 in the tick 10
        c.same("50: behind tick 10", x.settledIn(60), 11);
        c.same("50: just as many", x.settledIn(11), 11);
        c.same("50: not as early", x.settledIn(10), -1);
        c.same("50: not as early", x.settledIn(1), -1);
        c.same("50: nothing is changed", x.time() + x.letterOf(1, 0), 0);
        x.step(10);
        c.same("50: one is left", x.settledIn(1), 1);
        x.step(1);
        c.same("50: none is left", x.settledIn(60), 0);
    }

    // one more on the link each time
    private static void promise50ManyLetters() {
        Switchyard x = NetworkTest.withRouters(2);
        x.addLink(0, 1, 1, 1, 20);
        x.addFlow(0, 9, 20, 0);
        x.step(21);
        for (int i = 0; i < 40; i++) {
            x.addNetwork(0, 0, 0);
            x.dropNetwork(0);
            c.same("50: with " + x.letters(), x.settledIn(60), 21);
            c.same("49: with " + x.letters(), x.deliveredIn(0, 21), 0);
        }
        x.addNetwork(0, 0, 0);
        x.step(20);
        c.same("50: all come in one tick", x.settledIn(1), 1);
        c.same("50: they are on their way still", x.letters(), 81);
        x.step(1);
        c.same("50: they came", x.letters(), 0);
    }

    private static void promise50WrongNumbers() {
        Switchyard x = NetworkTest.withRouters(2);
        c.wrong(x, "50: 0 ticks, though none is on its way", () -> x.settledIn(0));
        x.addLink(0, 1, 1, 1, 1);
        c.wrong(x, "50: 0 ticks", () -> x.settledIn(0));
        c.wrong(x, "50: 61 ticks", () -> x.settledIn(61));
        c.wrong(x, "50: the least int", () -> x.settledIn(Integer.MIN_VALUE));
    }

    private static void promise51DigestOfNothing() {
        long d = 58026;
        for (int i = 0; i < 7; i++) {
            d *= 31;
        }
        c.same("51: of a new object", new Switchyard().digest(), d);
        Switchyard x = new Switchyard();
        x.addRouter();
        // time 0, one router, five counts of 0; then letter 0, distance 0, no first links, no entries, one node, depth 1
        long e = 58026L * 31 * 31 + 1;
        for (int i = 0; i < 5 + 4; i++) {
            e *= 31;
        }
        e = (e * 31 + 1) * 31 + 1;
        c.same("51: of one router", x.digest(), e);
    }

    private static void promise51Digest() {
        Switchyard x = busy();
        c.same("51: at first", x.digest(), digestOf(x));
        for (int tick = 0; tick < 90; tick++) {
            goOn(x, tick);
            c.same("51: behind tick " + tick, x.digest(), digestOf(x));
        }
        c.same("51: it changes nothing", x.digest(), x.digest());
    }

    // "which wraps around as a 64-bit integer": with numbers that have no end, cut to 64 bits only then
    private static void promise51WrapsAround() {
        Switchyard x = busy();
        x.step(20);
        List<Integer> numbers = numbersOf(x);
        BigInteger d = BigInteger.valueOf(58026);
        for (int number : numbers) {
            d = d.multiply(BigInteger.valueOf(31)).add(BigInteger.valueOf(number));
        }
        c.count(d.bitLength() > 64, "51: it is too long for 64 bits");
        c.same("51: cut to 64 bits", x.digest(), d.longValue());
    }

    private static long digestOf(Switchyard x) {
        long d = 58026;
        for (int number : numbersOf(x)) {
            d = d * 31 + number;
        }
        return d;
    }

    private static List<Integer> numbersOf(Switchyard x) {
        List<Integer> numbers = new ArrayList<>(List.of(x.time(), x.routers(), x.links(), x.networks(), x.statics(),
            x.flows(), x.letters()));
        for (int r = 0; r < x.routers(); r++) {
            for (int of = 0; of < x.routers(); of++) {
                numbers.addAll(List.of(x.letterOf(r, of), x.distance(r, of), x.firstLinks(r, of)));
            }
            numbers.addAll(List.of(x.entries(r), x.trieNodes(r), x.trieDepth(r)));
        }
        for (int l = 0; l < x.links(); l++) {
            numbers.addAll(List.of(x.isUp(l) ? 1 : 0, x.onLink(l)));
            for (int end = 0; end < 2; end++) {
                numbers.addAll(List.of(x.waiting(l, end == 1), x.sending(l, end == 1)));
                for (int of = 0; of < 4; of++) {
                    numbers.addAll(List.of(x.queued(l, end == 1, of), x.deficit(l, end == 1, of)));
                }
            }
        }
        for (int f = 0; f < x.flows(); f++) {
            numbers.addAll(List.of(x.offered(f), x.shaping(f), x.tokens(f), x.delivered(f)));
            for (int reason = 0; reason < 7; reason++) {
                numbers.add(x.dropped(f, reason));
            }
            numbers.addAll(List.of(x.latest(f), x.outOfOrder(f), x.route(f)));
            for (int r = 0; r < x.routers(); r++) {
                numbers.add(x.nextLink(r, f));
            }
        }
        return numbers;
    }
}
