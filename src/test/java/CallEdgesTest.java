import java.util.Arrays;
import java.util.function.Consumer;

// What the document says of wrong numbers: for each value that it bounds, the least and the greatest one are taken, and
// those just beside them, and far off, are refused; of several exceptions the one named first is thrown; a call that is
// refused changes nothing, neither now nor later; what is full takes no more, and what is empty loses nothing.
public final class CallEdgesTest {
    private static final Check c = new Check("CallEdgesTest");
    private static final Class<IndexOutOfBoundsException> NO_SUCH = IndexOutOfBoundsException.class;
    private static final Class<IllegalArgumentException> WRONG = IllegalArgumentException.class;
    private static final Class<IllegalStateException> NOT_NOW = IllegalStateException.class;

    interface Call {
        void on(Switchyard x, int value);
    }

    interface CallOfMany {
        void on(Switchyard x, int[] values);
    }

    public static void main(String[] args) {
        numbersOfRouters();
        numbersOfLinks();
        numbersOfFlows();
        otherNumbers();
        valuesOfLinks();
        valuesOfPrefixes();
        valuesOfPorts();
        valuesOfFlows();
        valuesOfSchedules();
        valuesOfTicks();
        aIsB();
        oneBehindTheLength();
        linkOfOthers();
        samePrefix();
        toldOnce();
        fullOfAll();
        emptyOfAll();
        firstNamedOfTheNetwork();
        firstNamedOfFlows();
        firstNamedOfQuestions();
        refusedCallsChangeNothing();
        c.end();
    }

    // 3 routers, 2 links, 2 networks, 2 static routes, 2 flows of the size 100, the time 7
    static Switchyard base() {
        Switchyard x = NetworkTest.withRouters(3);
        x.addLink(0, 1, 5, 10, 2);
        x.addLink(1, 2, 5, 10, 2);
        x.addNetwork(2, 0, 1);
        x.addNetwork(1, 32768, 4);
        x.addStatic(0, 4096, 4, 0);
        x.addStatic(1, 0, 0, 1);
        x.addFlow(0, 4097, 100, 1);
        x.addFlow(0, 4097, 100, 1);
        x.step(7);
        return x;
    }

    // Each value from the least to the greatest one is taken by a network of its own.
    private static void bound(String what, Class<? extends RuntimeException> due, int least, int most, Call call) {
        for (int value : new int[] {least, least + 1, (least + most) / 2, most - 1, most}) {
            if (value >= least && value <= most) {
                takes(base(), what + " " + value, x -> call.on(x, value));
            }
        }
        Switchyard x = base();
        for (int value : new int[] {least - 1, most + 1, least - 100000, most + 100000,
            Integer.MIN_VALUE, Integer.MIN_VALUE + 1, Integer.MAX_VALUE - 1, Integer.MAX_VALUE}) {
            c.refuses(x, what + " " + value, due, () -> call.on(x, value));
        }
    }

    private static void takes(Switchyard x, String what, Consumer<Switchyard> call) {
        String got = "nothing";
        try {
            call.accept(x);
        } catch (RuntimeException e) {
            got = e.getClass().getSimpleName();
        }
        c.count(got.equals("nothing"), what + " threw " + got);
    }

    private static void numbersOfRouters() {
        bound("3: no such router a", NO_SUCH, 0, 2, (x, v) -> x.addLink(v, v == 0 ? 1 : 0, 1, 1, 1));
        bound("3: no such router b", NO_SUCH, 0, 2, (x, v) -> x.addLink(v == 0 ? 1 : 0, v, 1, 1, 1));
        bound("6: no such router", NO_SUCH, 0, 2, (x, v) -> x.addNetwork(v, 8192, 3));
        bound("8: no such router", NO_SUCH, 0, 2, (x, v) -> x.addStatic(v, 0, 0, v == 2 ? 1 : 0));
        bound("12: no such router", NO_SUCH, 0, 2, (x, v) -> x.addFlow(v, 0, 20, 0));
        bound("23: no such router", NO_SUCH, 0, 2, (x, v) -> x.letterOf(v, 0));
        bound("23: of no such router", NO_SUCH, 0, 2, (x, v) -> x.letterOf(0, v));
        bound("26: no such router", NO_SUCH, 0, 2, (x, v) -> x.distance(v, 0));
        bound("26: to no such router", NO_SUCH, 0, 2, (x, v) -> x.distance(0, v));
        bound("27: no such router", NO_SUCH, 0, 2, (x, v) -> x.firstLinks(v, 0));
        bound("27: to no such router", NO_SUCH, 0, 2, (x, v) -> x.firstLinks(0, v));
        bound("28: no such router", NO_SUCH, 0, 2, (x, v) -> x.entries(v));
        bound("29: no such router", NO_SUCH, 0, 2, (x, v) -> x.trieNodes(v));
        bound("30: no such router", NO_SUCH, 0, 2, (x, v) -> x.trieDepth(v));
        bound("31: no such router", NO_SUCH, 0, 2, (x, v) -> x.looks(v, 0));
        bound("32: no such router", NO_SUCH, 0, 2, (x, v) -> x.found(v, 0));
        bound("33: no such router", NO_SUCH, 0, 2, (x, v) -> x.sortOf(v, 0));
        bound("34: no such router", NO_SUCH, 0, 2, (x, v) -> x.nextLink(v, 0));
    }

    private static void numbersOfLinks() {
        bound("4: no such link", NO_SUCH, 0, 1, (x, v) -> x.setCost(v, 9));
        bound("5: no such link", NO_SUCH, 0, 1, (x, v) -> x.setUp(v, true));
        bound("5: no such link", NO_SUCH, 0, 1, (x, v) -> x.setUp(v, false));
        bound("8: no such link", NO_SUCH, 0, 1, (x, v) -> x.addStatic(1, 0, 0, v));
        bound("10: no such link", NO_SUCH, 0, 1, (x, v) -> x.setPort(v, true, 0, 50, false));
        bound("11: no such link", NO_SUCH, 0, 1, (x, v) -> x.setWeight(v, true, 0, 1));
        bound("22: no such link", NO_SUCH, 0, 1, (x, v) -> x.isUp(v));
        bound("36: no such link", NO_SUCH, 0, 1, (x, v) -> x.waiting(v, false));
        bound("37: no such link", NO_SUCH, 0, 1, (x, v) -> x.queued(v, false, 0));
        bound("38: no such link", NO_SUCH, 0, 1, (x, v) -> x.sending(v, false));
        bound("39: no such link", NO_SUCH, 0, 1, (x, v) -> x.deficit(v, false, 0));
        bound("40: no such link", NO_SUCH, 0, 1, (x, v) -> x.onLink(v));
    }

    private static void numbersOfFlows() {
        bound("13: no such flow", NO_SUCH, 0, 1, (x, v) -> x.schedule(v, 7, 1, 1));
        bound("14: no such flow", NO_SUCH, 0, 1, (x, v) -> x.shape(v, 1, 100));
        bound("34: no such flow", NO_SUCH, 0, 1, (x, v) -> x.nextLink(0, v));
        bound("35: no such flow", NO_SUCH, 0, 1, (x, v) -> x.route(v));
        bound("41: no such flow", NO_SUCH, 0, 1, (x, v) -> x.offered(v));
        bound("42: no such flow", NO_SUCH, 0, 1, (x, v) -> x.shaping(v));
        bound("43: no such flow", NO_SUCH, 0, 1, (x, v) -> x.tokens(v));
        bound("44: no such flow", NO_SUCH, 0, 1, (x, v) -> x.delivered(v));
        bound("45: no such flow", NO_SUCH, 0, 1, (x, v) -> x.dropped(v, 0));
        bound("46: no such flow", NO_SUCH, 0, 1, (x, v) -> x.latest(v));
        bound("47: no such flow", NO_SUCH, 0, 1, (x, v) -> x.meanLate(v));
        bound("48: no such flow", NO_SUCH, 0, 1, (x, v) -> x.outOfOrder(v));
        bound("49: no such flow", NO_SUCH, 0, 1, (x, v) -> x.deliveredIn(v, 1));
    }

    private static void otherNumbers() {
        bound("7: no such network", NO_SUCH, 0, 1, (x, v) -> x.dropNetwork(v));
        bound("9: no such route", NO_SUCH, 0, 1, (x, v) -> x.dropStatic(v));
        bound("11: no such class", NO_SUCH, 0, 3, (x, v) -> x.setWeight(0, false, v, 1));
        bound("37: no such class", NO_SUCH, 0, 3, (x, v) -> x.queued(0, false, v));
        bound("39: no such class", NO_SUCH, 0, 3, (x, v) -> x.deficit(0, false, v));
        bound("45: no such reason", NO_SUCH, 0, 6, (x, v) -> x.dropped(0, v));
    }

    private static void valuesOfLinks() {
        bound("3: cost is not 1 to 50", WRONG, 1, 50, (x, v) -> x.addLink(0, 1, v, 1, 1));
        bound("3: rate is not 1 to 200", WRONG, 1, 200, (x, v) -> x.addLink(0, 1, 1, v, 1));
        bound("3: delay is not 1 to 20", WRONG, 1, 20, (x, v) -> x.addLink(0, 1, 1, 1, v));
        bound("4: cost is not 1 to 50", WRONG, 1, 50, (x, v) -> x.setCost(0, v));
    }

    private static void valuesOfPrefixes() {
        bound("6: address is not 0 to 65535", WRONG, 0, 65535, (x, v) -> x.addNetwork(0, v, 16));
        bound("6: length is not 0 to 16", WRONG, 0, 16, (x, v) -> x.addNetwork(0, 0, v));
        bound("8: address is not 0 to 65535", WRONG, 0, 65535, (x, v) -> x.addStatic(0, v, 16, 0));
        bound("8: length is not 0 to 16", WRONG, 0, 16, (x, v) -> x.addStatic(0, 0, v, 0));
        bound("31: address is not 0 to 65535", WRONG, 0, 65535, (x, v) -> x.looks(0, v));
        bound("32: address is not 0 to 65535", WRONG, 0, 65535, (x, v) -> x.found(0, v));
        bound("33: address is not 0 to 65535", WRONG, 0, 65535, (x, v) -> x.sortOf(0, v));
    }

    private static void valuesOfPorts() {
        bound("10: discipline is not 0 to 2", WRONG, 0, 2, (x, v) -> x.setPort(0, true, v, 50, false));
        bound("10: limit is not 50 to 5000", WRONG, 50, 5000, (x, v) -> x.setPort(0, true, 0, v, true));
        bound("11: weight is not 1 to 4", WRONG, 1, 4, (x, v) -> x.setWeight(0, true, 3, v));
    }

    private static void valuesOfFlows() {
        bound("12: address is not 0 to 65535", WRONG, 0, 65535, (x, v) -> x.addFlow(0, v, 20, 0));
        bound("12: size is not 20 to 500", WRONG, 20, 500, (x, v) -> x.addFlow(0, 0, v, 0));
        bound("12: ofClass is not 0 to 3", WRONG, 0, 3, (x, v) -> x.addFlow(0, 0, 20, v));
        bound("14: rate is not 1 to 500", WRONG, 1, 500, (x, v) -> x.shape(1, v, 100));
        bound("14: burst is not the size of its packets to 5000", WRONG, 100, 5000, (x, v) -> x.shape(1, 1, v));
        for (int size : new int[] {20, 101, 500}) {
            Switchyard x = base();
            int flow = x.addFlow(0, 0, size, 0);
            c.wrong(x, "14: burst is less than the size " + size, () -> x.shape(flow, 1, size - 1));
            c.same("14: burst is the size " + size, x.shape(flow, 1, size), 0);
        }
    }

    private static void valuesOfSchedules() {
        bound("13: start is less than the time 7, or more than 5000 above it", WRONG, 7, 5007,
            (x, v) -> x.schedule(1, v, 1, 1));
        bound("13: period is not 1 to 50", WRONG, 1, 50, (x, v) -> x.schedule(1, 7, v, 60));
        bound("13: count is not 1 to 60", WRONG, 1, 60, (x, v) -> x.schedule(1, 7, 50, v));
        Switchyard atOnce = NetworkTest.withRouters(1);
        atOnce.addFlow(0, 0, 20, 0);
        c.wrong(atOnce, "13: start -1 at the time 0", () -> atOnce.schedule(0, -1, 1, 1));
        c.wrong(atOnce, "13: start 5001 at the time 0", () -> atOnce.schedule(0, 5001, 1, 1));
        c.same("13: start 5000 at the time 0", atOnce.schedule(0, 5000, 50, 60), 5000 + 59 * 50);
    }

    private static void valuesOfTicks() {
        bound("15: ticks is not 1 to 60", WRONG, 1, 60, (x, v) -> x.step(v));
        bound("49: ticks is not 1 to 60", WRONG, 1, 60, (x, v) -> x.deliveredIn(0, v));
        bound("50: most is not 1 to 60", WRONG, 1, 60, (x, v) -> x.settledIn(v));
        Switchyard busy = base();
        busy.setCost(0, 1);
        c.wrong(busy, "50: most is 0 with letters on their way", () -> busy.settledIn(0));
        c.wrong(busy, "50: most is 61 with letters on their way", () -> busy.settledIn(61));
    }

    private static void aIsB() {
        Switchyard x = base();
        for (int router = 0; router < 3; router++) {
            int same = router;
            c.wrong(x, "3: a is b, " + same, () -> x.addLink(same, same, 1, 1, 1));
        }
    }

    // the last 1 that may stand in a prefix, and the first one that may not
    private static void oneBehindTheLength() {
        for (int length = 0; length <= 16; length++) {
            int bits = length;
            int whole = 65536 - (1 << 16 - length);
            takes(base(), "6: all ones of the length " + length, x -> x.addNetwork(0, whole, bits));
            takes(base(), "8: all ones of the length " + length, x -> x.addStatic(0, whole, bits, 0));
            if (length < 16) {
                Switchyard x = base();
                int first = 1 << 15 - length;
                c.wrong(x, "6: a 1 just behind the length " + length, () -> x.addNetwork(0, first, bits));
                c.wrong(x, "6: a 1 at the end behind the length " + length, () -> x.addNetwork(0, whole + 1, bits));
                c.wrong(x, "8: a 1 just behind the length " + length, () -> x.addStatic(0, first, bits, 0));
                c.wrong(x, "8: a 1 at the end behind the length " + length, () -> x.addStatic(0, whole + 1, bits, 0));
            }
        }
    }

    private static void linkOfOthers() {
        Switchyard x = base();
        c.wrong(x, "8: the link 1 is not one of the router 0", () -> x.addStatic(0, 0, 0, 1));
        c.wrong(x, "8: the link 0 is not one of the router 2", () -> x.addStatic(2, 0, 0, 0));
        c.same("8: it is one of its a", x.addStatic(0, 0, 0, 0), 2);
        c.same("8: it is one of its b", x.addStatic(1, 0, 0, 0), 3);
    }

    private static void samePrefix() {
        Switchyard x = base();
        c.notNow(x, "6: the router has the same prefix", () -> x.addNetwork(2, 0, 1));
        c.same("6: another router has it", x.addNetwork(0, 0, 1), 2);
        c.same("6: the same address, another length", x.addNetwork(2, 0, 2), 3);
        c.same("6: the same length, another address", x.addNetwork(2, 32768, 1), 4);
        c.notNow(x, "6: the one added last, too", () -> x.addNetwork(2, 32768, 1));
        x.dropNetwork(0);
        c.same("6: it has it no more", x.addNetwork(2, 0, 1), 4);
        c.same("8: the router has a static route with the same prefix", x.addStatic(0, 4096, 4, 0), 2);
        c.same("8: a static route with the prefix of a network", x.addStatic(1, 32768, 4, 0), 3);
    }

    private static void toldOnce() {
        Switchyard x = base();
        x.schedule(1, 7, 1, 1);
        c.notNow(x, "13: told", () -> x.schedule(1, 8, 1, 1));
        x.step(60);
        c.notNow(x, "13: told, and over", () -> x.schedule(1, 67, 1, 1));
        Switchyard early = NetworkTest.withRouters(1);
        early.addFlow(0, 0, 20, 0);
        early.schedule(0, 0, 1, 1);
        c.notNow(early, "13: told for the tick 0", () -> early.schedule(0, 0, 1, 1));
    }

    static Switchyard full() {
        Switchyard x = NetworkTest.withRouters(8);
        for (int i = 0; i < 14; i++) {
            c.same("3: links are numbered from 0", x.addLink(i % 8, (i + 1) % 8, 1, 1, 1), i);
        }
        for (int i = 0; i < 24; i++) {
            c.same("6: networks are numbered from 0", x.addNetwork(i % 8, i * 256, 8), i);
            c.same("8: static routes are numbered from 0", x.addStatic(i % 8, 0, 0, i % 8), i);
        }
        for (int i = 0; i < 12; i++) {
            c.same("12: flows are numbered from 0", x.addFlow(i % 8, 0, 20, 0), i);
        }
        return x;
    }

    private static void fullOfAll() {
        Switchyard x = full();
        c.notNow(x, "2: there are 8", () -> x.addRouter());
        c.notNow(x, "3: there are 14", () -> x.addLink(0, 1, 1, 1, 1));
        c.notNow(x, "6: there are 24", () -> x.addNetwork(0, 65280, 8));
        c.notNow(x, "8: there are 24", () -> x.addStatic(0, 65280, 8, 0));
        c.notNow(x, "12: there are 12", () -> x.addFlow(0, 0, 20, 0));
        x.setUp(3, false);
        c.notNow(x, "3: one that is DOWN counts", () -> x.addLink(0, 1, 1, 1, 1));
        c.same("7: one less", x.dropNetwork(23), 23);
        c.same("6: then there is room", x.addNetwork(0, 65280, 8), 23);
        c.notNow(x, "6: there are 24 again", () -> x.addNetwork(0, 65024, 8));
        c.same("9: one less", x.dropStatic(0), 23);
        c.same("8: then there is room", x.addStatic(0, 65280, 8, 0), 23);
        c.notNow(x, "8: there are 24 again", () -> x.addStatic(0, 65280, 8, 0));
    }

    private static void emptyOfAll() {
        Switchyard x = new Switchyard();
        c.noSuch(x, "3: no routers", () -> x.addLink(0, 1, 1, 1, 1));
        c.noSuch(x, "4: no links", () -> x.setCost(0, 1));
        c.noSuch(x, "5: no links", () -> x.setUp(0, true));
        c.noSuch(x, "6: no routers", () -> x.addNetwork(0, 0, 0));
        c.noSuch(x, "7: no networks", () -> x.dropNetwork(0));
        c.noSuch(x, "8: no routers", () -> x.addStatic(0, 0, 0, 0));
        c.noSuch(x, "9: no static routes", () -> x.dropStatic(0));
        c.noSuch(x, "10: no links", () -> x.setPort(0, false, 0, 50, false));
        c.noSuch(x, "11: no links", () -> x.setWeight(0, false, 0, 1));
        c.noSuch(x, "12: no routers", () -> x.addFlow(0, 0, 20, 0));
        c.noSuch(x, "13: no flows", () -> x.schedule(0, 0, 1, 1));
        c.noSuch(x, "14: no flows", () -> x.shape(0, 1, 20));
        c.noSuch(x, "22: no links", () -> x.isUp(0));
        c.noSuch(x, "23: no routers", () -> x.letterOf(0, 0));
        c.noSuch(x, "26: no routers", () -> x.distance(0, 0));
        c.noSuch(x, "27: no routers", () -> x.firstLinks(0, 0));
        c.noSuch(x, "34: no routers", () -> x.nextLink(0, 0));
        c.noSuch(x, "35: no flows", () -> x.route(0));
        c.noSuch(x, "49: no flows", () -> x.deliveredIn(0, 1));
        x.addRouter();
        c.noSuch(x, "8: a router, but no link", () -> x.addStatic(0, 0, 0, 0));
        c.noSuch(x, "34: a router, but no flow", () -> x.nextLink(0, 0));
        c.noSuch(x, "3: one router", () -> x.addLink(0, 1, 1, 1, 1));
    }

    // Each row has the values of one argument: good ones, those behind NS without such a thing, those behind W wrong.
    private static final int NS = 1_000_001;
    private static final int W = 1_000_002;

    // All ways to put the values of the rows together; of all that is wrong with one the first named one is due.
    private static void together(String what, Switchyard x, Class<? extends RuntimeException> otherwise, int[][] rows,
            CallOfMany call) {
        int[] places = new int[rows.length];
        while (places[0] < rows[0].length) {
            put(what, x, otherwise, rows, places, call);
            int last = rows.length - 1;
            places[last]++;
            while (last > 0 && places[last] == rows[last].length) {
                places[last] = 0;
                last--;
                places[last]++;
            }
        }
    }

    private static void put(String what, Switchyard x, Class<? extends RuntimeException> otherwise, int[][] rows,
            int[] places, CallOfMany call) {
        int[] values = new int[rows.length];
        boolean isWrong = false;
        boolean isNone = false;
        for (int i = 0; i < rows.length; i++) {
            int kind = 0;
            for (int j = 0; j <= places[i]; j++) {
                kind = rows[i][j] >= NS ? rows[i][j] : kind;
            }
            values[i] = rows[i][places[i]];
            if (values[i] == NS || values[i] == W) {
                return;
            }
            isNone |= kind == NS;
            isWrong |= kind == W;
        }
        Class<? extends RuntimeException> due = isNone ? NO_SUCH : isWrong ? WRONG : otherwise;
        if (due != null) {
            c.refuses(x, what + Arrays.toString(values), due, () -> call.on(x, values));
        }
    }

    private static void firstNamedOfTheNetwork() {
        Switchyard full = full();
        together("3: ", full, NOT_NOW, new int[][] {{0, 1, NS, -1, 8}, {2, NS, -1, 8}, {1, W, 0, 51}, {1, W, 0, 201},
            {1, W, 0, 21}}, (x, v) -> x.addLink(v[0], v[1], v[2], v[3], v[4]));
        c.wrong(full, "3: a is b, and there are 14", () -> full.addLink(7, 7, 1, 1, 1));
        c.noSuch(full, "3: a is b, and no such router", () -> full.addLink(8, 8, 1, 1, 1));
        together("4: ", full, null, new int[][] {{0, NS, -1, 14}, {2, W, 0, 51}}, (x, v) -> x.setCost(v[0], v[1]));
        together("6: ", full, NOT_NOW, new int[][] {{0, NS, -1, 8}, {0, 256, W, -1, 1, 65536}, {8, W, -1, 17}},
            (x, v) -> x.addNetwork(v[0], v[1], v[2]));
        together("8: ", full, NOT_NOW, new int[][] {{0, NS, -1, 8}, {0, 256, W, -1, 1, 65536}, {8, W, -1, 17},
            {0, W, 1, NS, -1, 14}}, (x, v) -> x.addStatic(v[0], v[1], v[2], v[3]));
        together("10: ", full, null, new int[][] {{0, NS, -1, 14}, {2, W, -1, 3}, {50, W, 49, 5001}},
            (x, v) -> x.setPort(v[0], false, v[1], v[2], true));
        together("11: ", full, null, new int[][] {{0, NS, -1, 14}, {3, NS, -1, 4}, {4, W, 0, 5}},
            (x, v) -> x.setWeight(v[0], true, v[1], v[2]));
    }

    private static void firstNamedOfFlows() {
        Switchyard full = full();
        together("12: ", full, NOT_NOW, new int[][] {{0, NS, -1, 8}, {0, W, -1, 65536}, {20, W, 19, 501}, {3, W, -1, 4}},
            (x, v) -> x.addFlow(v[0], v[1], v[2], v[3]));
        full.schedule(0, 0, 1, 1);
        together("13: ", full, NOT_NOW, new int[][] {{0, NS, -1, 12}, {0, W, -1, 5001}, {1, W, 0, 51}, {1, W, 0, 61}},
            (x, v) -> x.schedule(v[0], v[1], v[2], v[3]));
        together("14: ", full, null, new int[][] {{0, NS, -1, 12}, {1, W, 0, 501}, {20, W, 19, 5001}},
            (x, v) -> x.shape(v[0], v[1], v[2]));
    }

    private static void firstNamedOfQuestions() {
        Switchyard full = full();
        int[][] routerAndAddress = {{0, NS, -1, 8}, {0, W, -1, 65536}};
        together("31: ", full, null, routerAndAddress, (x, v) -> x.looks(v[0], v[1]));
        together("32: ", full, null, routerAndAddress, (x, v) -> x.found(v[0], v[1]));
        together("33: ", full, null, routerAndAddress, (x, v) -> x.sortOf(v[0], v[1]));
        together("49: ", full, null, new int[][] {{0, NS, -1, 12}, {1, W, 0, 61}}, (x, v) -> x.deliveredIn(v[0], v[1]));
    }

    // Of two networks that are made and used alike, one gets in each tick also calls that are refused; they stay alike,
    // also in what only later ticks show.
    private static void refusedCallsChangeNothing() {
        Switchyard x = AheadTest.busy();
        Switchyard twin = AheadTest.busy();
        for (int tick = 0; tick < 90; tick++) {
            refuseAll(x);
            c.same("a call that throws changes nothing, tick " + tick, x.digest(), twin.digest());
            AheadTest.goOn(x, tick);
            AheadTest.goOn(twin, tick);
        }
        for (int flow = 0; flow < 8; flow++) {
            c.same("a call that throws changes nothing, in the mean", x.meanLate(flow), twin.meanLate(flow));
        }
        for (int link = 0; link < 5; link++) {
            for (int ofClass = 0; ofClass < 4; ofClass++) {
                c.same("a call that throws changes no weight", x.setWeight(link, true, ofClass, 1),
                    twin.setWeight(link, true, ofClass, 1));
                c.same("a call that throws changes no weight", x.setWeight(link, false, ofClass, 1),
                    twin.setWeight(link, false, ofClass, 1));
            }
            c.same("a call that throws changes no cost", x.setCost(link, 1), twin.setCost(link, 1));
        }
    }

    private static void refuseAll(Switchyard x) {
        c.wrong(x, "3: rate 0", () -> x.addLink(0, 1, 1, 0, 1));
        c.wrong(x, "3: delay 0", () -> x.addLink(0, 1, 1, 1, 0));
        c.wrong(x, "4: cost 51", () -> x.setCost(1, 51));
        c.noSuch(x, "5: no link 5", () -> x.setUp(5, false));
        c.wrong(x, "6: a 1 behind the length", () -> x.addNetwork(0, 1, 15));
        c.notNow(x, "6: the same prefix", () -> x.addNetwork(3, 32768, 1));
        c.noSuch(x, "7: no network 2", () -> x.dropNetwork(2));
        c.wrong(x, "8: the link of others", () -> x.addStatic(0, 0, 1, 1));
        c.noSuch(x, "9: no static route 1", () -> x.dropStatic(1));
        c.wrong(x, "10: discipline 3", () -> x.setPort(0, false, 3, 50, false));
        c.wrong(x, "10: limit 49", () -> x.setPort(0, false, 0, 49, false));
        c.wrong(x, "10: limit 5001", () -> x.setPort(3, true, 1, 5001, false));
        c.wrong(x, "11: weight 5", () -> x.setWeight(0, false, 2, 5));
        c.wrong(x, "12: class 4", () -> x.addFlow(0, 0, 20, 4));
        c.notNow(x, "13: told once more", () -> x.schedule(0, x.time(), 50, 1));
        c.wrong(x, "13: count 61", () -> x.schedule(7, x.time(), 1, 61));
        c.wrong(x, "14: rate 0", () -> x.shape(1, 0, 5000));
        c.wrong(x, "14: rate 501", () -> x.shape(0, 501, 5000));
        c.wrong(x, "14: burst 5001", () -> x.shape(4, 500, 5001));
        c.wrong(x, "15: 61 ticks", () -> x.step(61));
        c.wrong(x, "15: 0 ticks", () -> x.step(0));
        c.wrong(x, "49: 61 ticks", () -> x.deliveredIn(0, 61));
        c.wrong(x, "50: 61 ticks", () -> x.settledIn(61));
    }
}
