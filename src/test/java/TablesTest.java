// Promises 28 to 35: tables, tries, and where packets would go.
public final class TablesTest {
    private static final Check c = new Check("TablesTest");

    public static void main(String[] args) {
        promise28Entries();
        promise28WhichEntry();
        promise28OldLetters();
        promise28MostEntries();
        promise29And30NodesAndDepth();
        promise30DeepestTrie();
        promise31Looks();
        promise32And33FoundAndSort();
        promise33NearestNetwork();
        promise34NextLink();
        promise34AmongFirstLinks();
        promise35Route();
        c.end();
    }

    private static void promise28Entries() {
        Switchyard x = NetworkTest.withRouters(3);
        x.addLink(0, 1, 1, 100, 1);
        x.addNetwork(0, 0, 1);
        x.addNetwork(1, 0, 1);
        x.addNetwork(1, 0, 2);
        x.addNetwork(2, 0, 3);
        x.addStatic(0, 0, 2, 0);
        x.addStatic(0, 0, 16, 0);
        c.same("28: none ahead of a tick", x.entries(0), 0);
        x.step(1);
        c.same("28: LOCAL and STATIC ones", x.entries(0), 3);
        c.same("28: LOCAL ones", x.entries(1), 2);
        x.step(1);
        c.same("28: the same prefixes count once", x.entries(0), 3);
        c.same("28: no prefix of 0 is new to 1", x.entries(1), 2);
        x.dropStatic(0);
        x.step(1);
        c.same("28: LEARNED now", x.entries(0), 3);
        x.setUp(0, false);
        c.same("28: the table stays until the tick", x.entries(0), 3);
        x.step(1);
        c.same("28: no distance, and the link is DOWN", x.entries(0), 1);
        c.same("28: without links", x.entries(2), 1);
        c.noSuch(x, "28: no router -1", () -> x.entries(-1));
        c.noSuch(x, "28: no router 3", () -> x.entries(3));
    }

    private static void promise28WhichEntry() {
        Switchyard x = NetworkTest.withRouters(2);
        x.addLink(0, 1, 1, 100, 1);
        x.addNetwork(1, 0, 4);
        x.step(3);
        c.same("28: LEARNED", x.sortOf(0, 0), 2);
        x.addStatic(0, 0, 4, 0);
        x.step(1);
        c.same("28: STATIC goes ahead of it", x.sortOf(0, 0), 1);
        x.addNetwork(0, 0, 4);
        x.step(1);
        c.same("28: LOCAL goes ahead of both", x.sortOf(0, 0), 0);
        c.same("28: one entry for the prefix", x.entries(0), 1);
        x.dropNetwork(1);
        x.step(1);
        c.same("28: STATIC again", x.sortOf(0, 0), 1);
        c.same("28: at 1 it is its own", x.sortOf(1, 0), 0);
    }

    // A letter that is kept tells of networks as long as there is a distance to its router.
    private static void promise28OldLetters() {
        Switchyard x = NetworkTest.withRouters(3);
        x.addLink(0, 1, 1, 100, 1);
        x.addLink(1, 2, 1, 100, 1);
        x.addNetwork(2, 0, 4);
        x.step(5);
        c.same("28: learned from afar", x.sortOf(0, 0), 2);
        x.setUp(0, false);
        x.dropNetwork(0);
        x.step(3);
        c.same("28: no way to it", x.entries(0), 0);
        c.same("28: it keeps the old letter", x.letterOf(0, 2), 2);
        x.setUp(0, true);
        x.step(1);
        // the old letter of 1 has the link still, and so there is a way by the old ones to the network
        c.same("28: no letter came yet", x.entries(0), 1);
        x.step(1);
        c.same("28: the newer letter came", x.letterOf(0, 2), 3);
        c.same("28: it has no network", x.entries(0), 0);
    }

    // Letters with 24 networks of each of seven routers come to 0 in one tick, those that take them back a tick later.
    private static void promise28MostEntries() {
        Switchyard x = NetworkTest.withRouters(8);
        for (int router = 1; router < 8; router++) {
            x.addLink(0, router, 1, 100, 21 - router);
        }
        x.step(60);
        for (int router = 1; router < 8; router++) {
            for (int i = 0; i < 24; i++) {
                x.addNetwork(router, router * 32 + i << 8, 8);
            }
            x.step(1);
            for (int i = 0; i < 24; i++) {
                x.dropNetwork(0);
            }
        }
        for (int i = 0; i < 24; i++) {
            x.addNetwork(0, i << 8, 8);
            x.addStatic(0, 24 << 8 | i, 16, 0);
        }
        x.step(13);
        c.same("28: its own ones and STATIC ones", x.entries(0), 48);
        x.step(1);
        c.same("28: with all that it learned", x.entries(0), 48 + 7 * 24);
        c.same("32: the first one of the last router", x.found(0, 7 * 32 << 8), 8);
        c.same("33: the last one of them", x.sortOf(0, 7 * 32 + 23 << 8), 2);
        c.same("33: STATIC", x.sortOf(0, 24 << 8 | 23), 1);
        x.step(1);
        c.same("28: what it learned is gone", x.entries(0), 48);
    }

    private static void promise29And30NodesAndDepth() {
        Switchyard x = NetworkTest.withRouters(1);
        c.same("29: that of the length 0", x.trieNodes(0), 1);
        c.same("30: it alone", x.trieDepth(0), 1);
        int[][] added = {
            // address, length, nodes, depth
            {0xA000, 4, 2, 2},
            {0xA800, 8, 3, 3},
            {0xB000, 4, 5, 4}, // with 101, length 3, between A and B
            {0xA900, 8, 7, 5}, // with 1010100, length 7, between A8 and A9
            {0x0000, 0, 7, 5}, // the node is there
            {0xA800, 7, 7, 5}, // the node is there
            {0x5000, 4, 8, 5},
            {0xFFFF, 16, 10, 6}, // with 1, length 1; that of the length 3 lies below it
        };
        int nodes = 1;
        for (int[] a : added) {
            x.addNetwork(0, a[0], a[1]);
            c.same("29: ahead of the tick", x.trieNodes(0), nodes);
            x.step(1);
            nodes = a[2];
            c.same("29: with " + Integer.toHexString(a[0]) + "/" + a[1], x.trieNodes(0), nodes);
            c.same("30: with " + Integer.toHexString(a[0]) + "/" + a[1], x.trieDepth(0), a[3]);
        }
        c.noSuch(x, "29: no router -1", () -> x.trieNodes(-1));
        c.noSuch(x, "29: no router 1", () -> x.trieNodes(1));
        c.noSuch(x, "30: no router -1", () -> x.trieDepth(-1));
        c.noSuch(x, "30: no router 1", () -> x.trieDepth(1));
    }

    private static void promise30DeepestTrie() {
        Switchyard x = NetworkTest.withRouters(1);
        for (int length = 16; length >= 0; length--) {
            x.addNetwork(0, 0xFFFF & -(1 << (16 - length)), length);
        }
        x.step(1);
        c.same("29: 17 nodes", x.trieNodes(0), 17);
        c.same("30: below each other", x.trieDepth(0), 17);
        c.same("31: looks at all", x.looks(0, 0xFFFF), 17);
        c.same("31: the last one does not fit", x.looks(0, 0xFFFE), 16);
        c.same("31: there is none on the other side", x.looks(0, 0x7FFF), 1);
        c.same("32: the longest one", x.found(0, 0xFFFF), 16);
        c.same("32: one shorter", x.found(0, 0xFFFE), 15);
    }

    // nodes: "", 1 (no entry), A = 1010 / 4, A8 = 10101000 / 8, C = 110 / 3
    private static void promise31Looks() {
        Switchyard x = NetworkTest.withRouters(1);
        c.same("31: without entries", x.looks(0, 0), 1);
        x.addNetwork(0, 0xA000, 4);
        x.addNetwork(0, 0xA800, 8);
        x.addNetwork(0, 0xC000, 3);
        x.step(1);
        c.same("31: nodes", x.trieNodes(0), 5);
        c.same("31: nothing on that side", x.looks(0, 0x7000), 1);
        c.same("31: to A8", x.looks(0, 0xA8FF), 4);
        c.same("31: A8 does not fit", x.looks(0, 0xA900), 4);
        c.same("31: nothing on that side below A", x.looks(0, 0xA000), 3);
        c.same("31: A does not fit", x.looks(0, 0x8000), 3);
        c.same("31: to C", x.looks(0, 0xC000), 3);
        c.same("31: C does not fit", x.looks(0, 0xFFFF), 3);
        c.noSuch(x, "31: no router -1", () -> x.looks(-1, 0));
        c.noSuch(x, "31: no router 1, and no address", () -> x.looks(1, 65536));
        c.wrong(x, "31: address -1", () -> x.looks(0, -1));
        c.wrong(x, "31: address 65536", () -> x.looks(0, 65536));
    }

    private static void promise32And33FoundAndSort() {
        Switchyard x = NetworkTest.withRouters(2);
        x.addLink(0, 1, 1, 100, 1);
        x.addNetwork(0, 0xA000, 4);
        x.addNetwork(1, 0xA800, 8);
        x.addStatic(0, 0xA8F0, 12, 0);
        c.same("32: ahead of a tick", x.found(0, 0xA000), -1);
        c.same("33: ahead of a tick", x.sortOf(0, 0xA000), -1);
        x.step(2);
        c.same("32: LOCAL", x.found(0, 0xAFFF), 4);
        c.same("33: LOCAL", x.sortOf(0, 0xAFFF), 0);
        c.same("32: LEARNED", x.found(0, 0xA8EF), 8);
        c.same("33: LEARNED", x.sortOf(0, 0xA8EF), 2);
        c.same("32: STATIC", x.found(0, 0xA8F7), 12);
        c.same("33: STATIC", x.sortOf(0, 0xA8F7), 1);
        c.same("32: nothing", x.found(0, 0xB000), -1);
        c.same("33: nothing", x.sortOf(0, 0xB000), -1);
        x.addNetwork(0, 0, 0);
        x.addNetwork(0, 0xFFFF, 16);
        x.step(1);
        c.same("32: by the length 0", x.found(0, 0xB000), 0);
        c.same("32: by the length 16", x.found(0, 0xFFFF), 16);
        c.noSuch(x, "32: no router -1", () -> x.found(-1, 0));
        c.noSuch(x, "32: no router 2, and no address", () -> x.found(2, -1));
        c.wrong(x, "32: address -1", () -> x.found(0, -1));
        c.wrong(x, "32: address 65536", () -> x.found(0, 65536));
        c.noSuch(x, "33: no router -1", () -> x.sortOf(-1, 0));
        c.noSuch(x, "33: no router 2, and no address", () -> x.sortOf(2, -1));
        c.wrong(x, "33: address -1", () -> x.sortOf(0, -1));
        c.wrong(x, "33: address 65536", () -> x.sortOf(0, 65536));
    }

    // The same prefix at 1, 2 and 3: the nearest one counts, of 2 and 3 the smaller number.
    private static void promise33NearestNetwork() {
        Switchyard x = NetworkTest.withRouters(4);
        x.addLink(0, 3, 5, 100, 1);
        x.addLink(0, 2, 5, 100, 1);
        x.addLink(0, 1, 6, 100, 1);
        x.addNetwork(3, 0, 0);
        x.addNetwork(2, 0, 0);
        x.addNetwork(1, 0, 0);
        x.addFlow(0, 0, 20, 0);
        x.step(9);
        c.same("33: of 2 and 3, that of 2", x.nextLink(0, 0), 1);
        x.setCost(0, 4);
        x.step(1);
        c.same("33: 3 is nearest", x.nextLink(0, 0), 0);
        x.setCost(2, 1);
        x.step(1);
        c.same("33: 1 is nearest", x.nextLink(0, 0), 2);
    }

    private static void promise34NextLink() {
        Switchyard x = NetworkTest.withRouters(3);
        x.addLink(0, 1, 1, 100, 1);
        x.addLink(1, 2, 1, 100, 1);
        x.addNetwork(2, 0x1000, 4);
        x.addFlow(0, 0x1234, 20, 0);
        c.same("34: nothing ahead of a tick", x.nextLink(0, 0), -1);
        x.step(9);
        c.same("34: LEARNED at 0", x.nextLink(0, 0), 0);
        c.same("34: LEARNED at 1", x.nextLink(1, 0), 1);
        c.same("34: LOCAL at 2", x.nextLink(2, 0), -2);
        x.addStatic(1, 0x1230, 12, 0);
        x.step(1);
        c.same("34: STATIC at 1, along its longer prefix", x.nextLink(1, 0), 0);
        x.setUp(0, false);
        c.same("34: by its table, though the link is DOWN", x.nextLink(1, 0), 0);
        c.noSuch(x, "34: no router -1", () -> x.nextLink(-1, 0));
        c.noSuch(x, "34: no router 3", () -> x.nextLink(3, 0));
        c.noSuch(x, "34: no flow -1", () -> x.nextLink(0, -1));
        c.noSuch(x, "34: no flow 1", () -> x.nextLink(0, 1));
    }

    // (flow * 7 + router) % 3 tells the place among the links 1, 3 and 4.
    private static void promise34AmongFirstLinks() {
        Switchyard x = NetworkTest.withRouters(3);
        x.addLink(0, 2, 9, 100, 1);
        x.addLink(1, 2, 2, 100, 1);
        x.addLink(0, 1, 9, 100, 1);
        x.addLink(1, 2, 2, 100, 1);
        x.addLink(2, 1, 2, 100, 1);
        x.addNetwork(2, 0, 0);
        for (int flow = 0; flow < 6; flow++) {
            x.addFlow(0, 0, 20, 0);
        }
        x.step(9);
        int[] due = {3, 4, 1, 3, 4, 1};
        for (int flow = 0; flow < 6; flow++) {
            c.same("34: flow " + flow + " at 1", x.nextLink(1, flow), due[flow]);
        }
        c.same("34: one link at 0", x.nextLink(0, 5), 0);
    }

    private static void promise35Route() {
        Switchyard x = NetworkTest.withRouters(8);
        for (int i = 1; i < 8; i++) {
            x.addLink(i - 1, i, 1, 100, 1);
        }
        x.addNetwork(7, 0x8000, 1);
        x.addFlow(0, 0x9000, 20, 0);
        x.addFlow(7, 0x9000, 20, 0);
        x.addFlow(4, 0x1000, 20, 0);
        c.same("35: nothing is found yet", x.route(0), -1);
        x.step(20);
        c.same("35: over all links", x.route(0), 7);
        c.same("35: LOCAL where it begins", x.route(1), 0);
        c.same("35: nothing is found", x.route(2), -1);
        x.addStatic(4, 0x1000, 4, 3);
        x.step(1);
        c.same("35: nothing is found behind a link", x.route(2), -1);
        x.addStatic(3, 0x1000, 4, 3);
        x.step(1);
        c.same("35: once more at 4", x.route(2), -2);
        x.addStatic(6, 0x9000, 4, 5);
        x.step(1);
        c.same("35: once more at 5", x.route(0), -2);
        x.dropStatic(2);
        x.step(1);
        x.setUp(6, false);
        c.same("35: along a link that is DOWN", x.route(0), 7);
        x.step(1);
        c.same("35: 6 knows of no way", x.route(0), -1);
        c.noSuch(x, "35: no flow -1", () -> x.route(-1));
        c.noSuch(x, "35: no flow 3", () -> x.route(3));
    }
}
