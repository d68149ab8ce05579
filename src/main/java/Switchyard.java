// A network of packet routers: letters by which they learn their ways, tables with the longest prefix,
// ports that queue, and flows held back by tokens.
public final class Switchyard {
    private static final int NONE = -1;
    private static final int MOST_ROUTERS = 8;
    private static final int MOST_LINKS = 14;
    private static final int MOST_NETWORKS = 24;
    private static final int MOST_STATICS = 24;
    private static final int MOST_FLOWS = 12;
    private static final int MOST_COST = 50;
    private static final int MOST_RATE = 200;
    private static final int MOST_DELAY = 20;
    private static final int MOST_TICKS = 60;
    private static final int ADDRESS_BITS = 16;
    private static final int MOST_ADDRESS = 65535;
    private static final int CLASSES = 4;
    private static final int MOST_WEIGHT = 4;
    private static final int LEAST_SIZE = 20;
    private static final int MOST_SIZE = 500;
    private static final int FIRST_LIMIT = 2000;
    private static final int LEAST_LIMIT = 50;
    private static final int MOST_LIMIT = 5000;
    private static final int MOST_AHEAD = 5000;
    private static final int MOST_PERIOD = 50;
    private static final int MOST_PACKETS = 60;
    private static final int MOST_FLOW_RATE = 500;
    private static final int MOST_BURST = 5000;
    private static final int MOST_SHAPING = 10;
    private static final int FULL_LIFE = 12;

    private static final int FIRST_COME = 0;
    private static final int BY_CLASSES = 1;
    private static final int IN_TURNS = 2;

    private static final int LOCAL = 0;
    private static final int STATIC = 1;
    private static final int LEARNED = 2;

    private static final int NOT_FOUND = -1;
    private static final int HERE = -2;
    private static final int ROUND = -2;

    private static final int SHAPER_FULL = 0;
    private static final int NO_ENTRY = 1;
    private static final int LIFE_OVER = 2;
    private static final int LINK_DOWN = 3;
    private static final int OVER_LIMIT = 4;
    private static final int EARLY = 5;
    private static final int LINK_LOST = 6;
    private static final int REASONS = 7;

    private final Net net;
    // deliveredIn() and settledIn() let time go by in this copy; it is kept, so that they make no new rows
    private final Net ahead;

    public Switchyard() {
        net = new Net();
        ahead = new Net();
    }

    // ---- the network

    public int addRouter() throws IllegalStateException {
        if (net.routerCount >= MOST_ROUTERS) {
            throw new IllegalStateException("too many routers");
        }
        return net.newRouter();
    }

    public int addLink(int a, int b, int cost, int rate, int delay)
            throws IndexOutOfBoundsException, IllegalArgumentException, IllegalStateException {
        checkRouter(a);
        checkRouter(b);
        if (a == b) {
            throw new IllegalArgumentException("a link from a router to itself");
        }
        checkRange(cost, 1, MOST_COST);
        checkRange(rate, 1, MOST_RATE);
        checkRange(delay, 1, MOST_DELAY);
        if (net.linkCount >= MOST_LINKS) {
            throw new IllegalStateException("too many links");
        }
        return net.newLink(a, b, cost, rate, delay);
    }

    public int setCost(int link, int cost) throws IndexOutOfBoundsException, IllegalArgumentException {
        checkLink(link);
        checkRange(cost, 1, MOST_COST);
        return net.changeCost(link, cost);
    }

    public boolean setUp(int link, boolean isUp) throws IndexOutOfBoundsException {
        checkLink(link);
        boolean wasUp = net.links[link].isUp;
        if (isUp && !wasUp) {
            net.raise(link);
        }
        if (!isUp && wasUp) {
            net.cut(link);
        }
        return wasUp;
    }

    public int addNetwork(int router, int address, int length)
            throws IndexOutOfBoundsException, IllegalArgumentException, IllegalStateException {
        checkRouter(router);
        checkPrefix(address, length);
        int prefix = Prefix.of(address, length);
        if (net.networks.count >= MOST_NETWORKS) {
            throw new IllegalStateException("too many networks");
        }
        if (net.networks.has(router, prefix)) {
            throw new IllegalStateException("the router has a network with this prefix");
        }
        return net.newNetwork(router, prefix);
    }

    public int dropNetwork(int network) throws IndexOutOfBoundsException {
        checkIndex(network, net.networks.count);
        return net.loseNetwork(network);
    }

    public int addStatic(int router, int address, int length, int link)
            throws IndexOutOfBoundsException, IllegalArgumentException, IllegalStateException {
        checkRouter(router);
        checkLink(link);
        checkPrefix(address, length);
        if (!net.links[link].touches(router)) {
            throw new IllegalArgumentException("the link is not one of the router");
        }
        if (net.statics.count >= MOST_STATICS) {
            throw new IllegalStateException("too many static routes");
        }
        return net.newStatic(router, Prefix.of(address, length), link);
    }

    public int dropStatic(int route) throws IndexOutOfBoundsException {
        checkIndex(route, net.statics.count);
        return net.loseStatic(route);
    }

    public int setPort(int link, boolean isAtB, int discipline, int limit, boolean isEarly)
            throws IndexOutOfBoundsException, IllegalArgumentException {
        checkLink(link);
        checkRange(discipline, FIRST_COME, IN_TURNS);
        checkRange(limit, LEAST_LIMIT, MOST_LIMIT);
        Port port = portOf(link, isAtB);
        port.configure(discipline, limit, isEarly);
        return port.queueLength;
    }

    public int setWeight(int link, boolean isAtB, int ofClass, int weight)
            throws IndexOutOfBoundsException, IllegalArgumentException {
        checkLink(link);
        checkIndex(ofClass, CLASSES);
        checkRange(weight, 1, MOST_WEIGHT);
        Port port = portOf(link, isAtB);
        int before = port.weights[ofClass];
        port.weights[ofClass] = weight;
        return before;
    }

    // ---- flows

    public int addFlow(int router, int address, int size, int ofClass)
            throws IndexOutOfBoundsException, IllegalArgumentException, IllegalStateException {
        checkRouter(router);
        checkAddress(address);
        checkRange(size, LEAST_SIZE, MOST_SIZE);
        checkRange(ofClass, 0, CLASSES - 1);
        if (net.flowCount >= MOST_FLOWS) {
            throw new IllegalStateException("too many flows");
        }
        return net.newFlow(router, address, size, ofClass);
    }

    public int schedule(int flow, int start, int period, int count)
            throws IndexOutOfBoundsException, IllegalArgumentException, IllegalStateException {
        checkFlow(flow);
        checkRange(start, net.time, net.time + MOST_AHEAD);
        checkRange(period, 1, MOST_PERIOD);
        checkRange(count, 1, MOST_PACKETS);
        Flow told = net.flows[flow];
        if (told.start != NONE) {
            throw new IllegalStateException("the flow was told its schedule");
        }
        told.start = start;
        told.period = period;
        told.count = count;
        return start + (count - 1) * period;
    }

    public int shape(int flow, int rate, int burst) throws IndexOutOfBoundsException, IllegalArgumentException {
        checkFlow(flow);
        Flow shaped = net.flows[flow];
        checkRange(rate, 1, MOST_FLOW_RATE);
        checkRange(burst, shaped.size, MOST_BURST);
        shaped.rate = rate;
        shaped.burst = burst;
        shaped.tokens = burst;
        return shaped.shaperLength;
    }

    // ---- time

    public int step(int ticks) throws IllegalArgumentException {
        checkRange(ticks, 1, MOST_TICKS);
        for (int i = 0; i < ticks; i++) {
            net.tick();
        }
        return net.time;
    }

    public int time() {
        return net.time;
    }

    public int routers() {
        return net.routerCount;
    }

    public int links() {
        return net.linkCount;
    }

    public int networks() {
        return net.networks.count;
    }

    public int statics() {
        return net.statics.count;
    }

    public int flows() {
        return net.flowCount;
    }

    public boolean isUp(int link) throws IndexOutOfBoundsException {
        checkLink(link);
        return net.links[link].isUp;
    }

    // ---- what routers know

    public int letterOf(int router, int of) throws IndexOutOfBoundsException {
        checkRouter(router);
        checkRouter(of);
        return net.routers[router].letters[of].number;
    }

    public int letters() {
        return net.lettersOnTheirWay();
    }

    public boolean isSettled() {
        return net.lettersOnTheirWay() == 0;
    }

    public int distance(int router, int to) throws IndexOutOfBoundsException {
        checkRouter(router);
        checkRouter(to);
        return net.routers[router].distances[to];
    }

    public int firstLinks(int router, int to) throws IndexOutOfBoundsException {
        checkRouter(router);
        checkRouter(to);
        return Integer.bitCount(net.routers[router].firsts[to]);
    }

    // ---- tables and tries

    public int entries(int router) throws IndexOutOfBoundsException {
        checkRouter(router);
        return net.routers[router].table.count;
    }

    public int trieNodes(int router) throws IndexOutOfBoundsException {
        checkRouter(router);
        return net.routers[router].table.countNodes();
    }

    public int trieDepth(int router) throws IndexOutOfBoundsException {
        checkRouter(router);
        return net.routers[router].table.countLevels();
    }

    public int looks(int router, int address) throws IndexOutOfBoundsException, IllegalArgumentException {
        checkRouter(router);
        checkAddress(address);
        return net.routers[router].table.countLooks(address);
    }

    public int found(int router, int address) throws IndexOutOfBoundsException, IllegalArgumentException {
        checkRouter(router);
        checkAddress(address);
        Table table = net.routers[router].table;
        int entry = table.find(address);
        return entry == NONE ? NOT_FOUND : Prefix.lengthOf(table.prefixes[entry]);
    }

    public int sortOf(int router, int address) throws IndexOutOfBoundsException, IllegalArgumentException {
        checkRouter(router);
        checkAddress(address);
        Table table = net.routers[router].table;
        int entry = table.find(address);
        return entry == NONE ? NOT_FOUND : table.sorts[entry];
    }

    public int nextLink(int router, int flow) throws IndexOutOfBoundsException {
        checkRouter(router);
        checkFlow(flow);
        return net.linkToward(router, flow);
    }

    public int route(int flow) throws IndexOutOfBoundsException {
        checkFlow(flow);
        return net.follow(flow);
    }

    // ---- ports

    public int waiting(int link, boolean isAtB) throws IndexOutOfBoundsException {
        checkLink(link);
        return portOf(link, isAtB).bytes;
    }

    public int queued(int link, boolean isAtB, int ofClass) throws IndexOutOfBoundsException {
        checkLink(link);
        checkIndex(ofClass, CLASSES);
        return portOf(link, isAtB).countOf(ofClass);
    }

    public int sending(int link, boolean isAtB) throws IndexOutOfBoundsException {
        checkLink(link);
        return portOf(link, isAtB).bytesLeft;
    }

    public int deficit(int link, boolean isAtB, int ofClass) throws IndexOutOfBoundsException {
        checkLink(link);
        checkIndex(ofClass, CLASSES);
        return portOf(link, isAtB).deficits[ofClass];
    }

    public int onLink(int link) throws IndexOutOfBoundsException {
        checkLink(link);
        return net.links[link].countPackets();
    }

    // ---- what became of flows

    public int offered(int flow) throws IndexOutOfBoundsException {
        checkFlow(flow);
        return net.flows[flow].offered;
    }

    public int shaping(int flow) throws IndexOutOfBoundsException {
        checkFlow(flow);
        return net.flows[flow].shaperLength;
    }

    public int tokens(int flow) throws IndexOutOfBoundsException {
        checkFlow(flow);
        return net.flows[flow].tokens;
    }

    public int delivered(int flow) throws IndexOutOfBoundsException {
        checkFlow(flow);
        return net.flows[flow].delivered;
    }

    public int dropped(int flow, int reason) throws IndexOutOfBoundsException {
        checkFlow(flow);
        checkIndex(reason, REASONS);
        return net.flows[flow].drops[reason];
    }

    public int latest(int flow) throws IndexOutOfBoundsException {
        checkFlow(flow);
        return net.flows[flow].mostLate;
    }

    public double meanLate(int flow) throws IndexOutOfBoundsException {
        checkFlow(flow);
        Flow asked = net.flows[flow];
        return asked.delivered == 0 ? 0.0 : (double) asked.sumLate / asked.delivered;
    }

    public int outOfOrder(int flow) throws IndexOutOfBoundsException {
        checkFlow(flow);
        return net.flows[flow].overtaken;
    }

    // ---- what would be (nothing is changed)

    public int deliveredIn(int flow, int ticks) throws IndexOutOfBoundsException, IllegalArgumentException {
        checkFlow(flow);
        checkRange(ticks, 1, MOST_TICKS);
        ahead.copyFrom(net);
        for (int i = 0; i < ticks; i++) {
            ahead.tick();
        }
        return ahead.flows[flow].delivered;
    }

    public int settledIn(int most) throws IllegalArgumentException {
        checkRange(most, 1, MOST_TICKS);
        if (net.lettersOnTheirWay() == 0) {
            return 0;
        }
        ahead.copyFrom(net);
        for (int ticks = 1; ticks <= most; ticks++) {
            ahead.tick();
            if (ahead.lettersOnTheirWay() == 0) {
                return ticks;
            }
        }
        return NONE;
    }

    public long digest() {
        long d = 58026;
        d = d * 31 + net.time;
        d = d * 31 + net.routerCount;
        d = d * 31 + net.linkCount;
        d = d * 31 + net.networks.count;
        d = d * 31 + net.statics.count;
        d = d * 31 + net.flowCount;
        d = d * 31 + net.lettersOnTheirWay();
        for (int router = 0; router < net.routerCount; router++) {
            d = digestRouter(d, net.routers[router]);
        }
        for (int link = 0; link < net.linkCount; link++) {
            d = digestLink(d, net.links[link]);
        }
        for (int flow = 0; flow < net.flowCount; flow++) {
            d = digestFlow(d, flow);
        }
        return d;
    }

    private long digestRouter(long before, Router router) {
        long d = before;
        for (int of = 0; of < net.routerCount; of++) {
            d = d * 31 + router.letters[of].number;
            d = d * 31 + router.distances[of];
            d = d * 31 + Integer.bitCount(router.firsts[of]);
        }
        d = d * 31 + router.table.count;
        d = d * 31 + router.table.countNodes();
        d = d * 31 + router.table.countLevels();
        return d;
    }

    private static long digestLink(long before, Link link) {
        long d = before;
        d = d * 31 + (link.isUp ? 1 : 0);
        d = d * 31 + link.countPackets();
        d = digestPort(d, link.atA);
        return digestPort(d, link.atB);
    }

    private static long digestPort(long before, Port port) {
        long d = before;
        d = d * 31 + port.bytes;
        d = d * 31 + port.bytesLeft;
        for (int ofClass = 0; ofClass < CLASSES; ofClass++) {
            d = d * 31 + port.countOf(ofClass);
            d = d * 31 + port.deficits[ofClass];
        }
        return d;
    }

    private long digestFlow(long before, int number) {
        Flow flow = net.flows[number];
        long d = before;
        d = d * 31 + flow.offered;
        d = d * 31 + flow.shaperLength;
        d = d * 31 + flow.tokens;
        d = d * 31 + flow.delivered;
        for (int reason = 0; reason < REASONS; reason++) {
            d = d * 31 + flow.drops[reason];
        }
        d = d * 31 + flow.mostLate;
        d = d * 31 + flow.overtaken;
        d = d * 31 + net.follow(number);
        for (int router = 0; router < net.routerCount; router++) {
            d = d * 31 + net.linkToward(router, number);
        }
        return d;
    }

    private Port portOf(int link, boolean isAtB) {
        return isAtB ? net.links[link].atB : net.links[link].atA;
    }

    private static void checkIndex(int index, int count) {
        if (index < 0 || index >= count) {
            throw new IndexOutOfBoundsException("no such number");
        }
    }

    private void checkRouter(int router) {
        checkIndex(router, net.routerCount);
    }

    private void checkLink(int link) {
        checkIndex(link, net.linkCount);
    }

    private void checkFlow(int flow) {
        checkIndex(flow, net.flowCount);
    }

    private static void checkRange(int value, int least, int most) {
        if (value < least || value > most) {
            throw new IllegalArgumentException("a value out of its range");
        }
    }

    private static void checkAddress(int address) {
        checkRange(address, 0, MOST_ADDRESS);
    }

    private static void checkPrefix(int address, int length) {
        checkAddress(address);
        checkRange(length, 0, ADDRESS_BITS);
        if (Prefix.hasMore(address, length)) {
            throw new IllegalArgumentException("the address has a 1 behind the length");
        }
    }

    // A prefix is held as one number, so that prefixes sort by address, and those of one address by length:
    // all that lie below a prefix stand directly behind it.
    private static final class Prefix {
        static int of(int address, int length) {
            return address * 32 + length;
        }

        static int addressOf(int prefix) {
            return prefix >> 5;
        }

        static int lengthOf(int prefix) {
            return prefix & 31;
        }

        static boolean hasMore(int address, int length) {
            return (address & ((1 << (ADDRESS_BITS - length)) - 1)) != 0;
        }

        static boolean fits(int prefix, int address) {
            return (addressOf(prefix) ^ address) >> (ADDRESS_BITS - lengthOf(prefix)) == 0;
        }

        static int commonLength(int address, int other) {
            int length = ADDRESS_BITS;
            for (int rest = address ^ other; rest != 0 && length > 0; rest >>= 1) {
                length--;
            }
            return length;
        }

        static boolean hasBit(int address, int place) {
            return ((address >> (ADDRESS_BITS - 1 - place)) & 1) != 0;
        }
    }

    // Networks, or static routes: each a prefix at a router, and for the latter a link.
    private static final class PrefixList {
        final int[] routers;
        final int[] prefixes;
        final int[] links;
        int count;

        PrefixList(int most) {
            routers = new int[most];
            prefixes = new int[most];
            links = new int[most];
        }

        int add(int router, int prefix, int link) {
            if (count >= routers.length) {
                return NONE;
            }
            routers[count] = router;
            prefixes[count] = prefix;
            links[count] = link;
            count++;
            return count - 1;
        }

        void remove(int place) {
            for (int i = place + 1; i < count; i++) {
                routers[i - 1] = routers[i];
                prefixes[i - 1] = prefixes[i];
                links[i - 1] = links[i];
            }
            count--;
        }

        boolean has(int router, int prefix) {
            for (int i = 0; i < count; i++) {
                if (routers[i] == router && prefixes[i] == prefix) {
                    return true;
                }
            }
            return false;
        }

        int[] prefixesAt(int router) {
            int size = 0;
            for (int i = 0; i < count; i++) {
                size += routers[i] == router ? 1 : 0;
            }
            int[] at = new int[size];
            int next = 0;
            for (int i = 0; i < count && next < size; i++) {
                if (routers[i] == router) {
                    at[next] = prefixes[i];
                    next++;
                }
            }
            return at;
        }

        void copyFrom(PrefixList other) {
            count = other.count;
            System.arraycopy(other.routers, 0, routers, 0, count);
            System.arraycopy(other.prefixes, 0, prefixes, 0, count);
            System.arraycopy(other.links, 0, links, 0, count);
        }
    }

    // Never changed once it is written, so the same letter may be kept and be on its way at many places.
    private static final class Letter {
        final int of;
        final int number;
        final int linkSet;
        final int[] costs;
        final int[] networks;

        Letter(int of, int number, int linkSet, int[] costs, int[] networks) {
            this.of = of;
            this.number = number;
            this.linkSet = linkSet;
            this.costs = costs;
            this.networks = networks;
        }

        boolean hasLink(int link) {
            return ((linkSet >> link) & 1) != 0;
        }
    }

    // The table of a router, its entries sorted by their prefixes. The trie is not held: the entries below a node
    // are a run of the sorted rows, and the node is told by the first and the last of them.
    private static final class Table {
        // letters of the seven other routers may, until all is settled, tell of networks that are long gone
        static final int MOST_ENTRIES = MOST_NETWORKS + MOST_STATICS + (MOST_ROUTERS - 1) * MOST_NETWORKS;

        final int[] prefixes = new int[MOST_ENTRIES];
        final int[] sorts = new int[MOST_ENTRIES];
        final int[] linkSets = new int[MOST_ENTRIES];
        int count;

        void enter(int prefix, int sort, int linkSet) {
            int place = 0;
            while (place < count && prefixes[place] < prefix) {
                place++;
            }
            boolean isTaken = place < count && prefixes[place] == prefix;
            if (isTaken || count >= MOST_ENTRIES) {
                return;
            }
            for (int i = count; i > place; i--) {
                prefixes[i] = prefixes[i - 1];
                sorts[i] = sorts[i - 1];
                linkSets[i] = linkSets[i - 1];
            }
            prefixes[place] = prefix;
            sorts[place] = sort;
            linkSets[place] = linkSet;
            count++;
        }

        int find(int address) {
            int best = NONE;
            int bestLength = NONE;
            for (int i = 0; i < count; i++) {
                int length = Prefix.lengthOf(prefixes[i]);
                if (length > bestLength && Prefix.fits(prefixes[i], address)) {
                    best = i;
                    bestLength = length;
                }
            }
            return best;
        }

        int countNodes() {
            return nodesOf(prefixes, 0, count, 0, 0);
        }

        int countLevels() {
            return levelsOf(prefixes, 0, count, 0, 0);
        }

        int countLooks(int address) {
            int looked = 1;
            int from = 0;
            int to = count;
            int length = 0;
            for (int level = 0; level < ADDRESS_BITS && length < ADDRESS_BITS; level++) {
                int start = behindNode(prefixes, from, to, length);
                int middle = firstWithBit(prefixes, start, to, length);
                boolean hasBit = Prefix.hasBit(address, length);
                from = hasBit ? middle : start;
                to = hasBit ? to : middle;
                if (from >= to) {
                    return looked;
                }
                looked++;
                length = nodeLength(prefixes, from, to);
                if (Prefix.commonLength(Prefix.addressOf(prefixes[from]), address) < length) {
                    return looked;
                }
            }
            return looked;
        }

        // how many nodes there are at and below the node of this length, whose entries are from .. to - 1
        private static int nodesOf(int[] prefixes, int from, int to, int length, int level) {
            if (level > ADDRESS_BITS) {
                return 0;
            }
            int start = behindNode(prefixes, from, to, length);
            int middle = firstWithBit(prefixes, start, to, length);
            int nodes = 1;
            if (start < middle) {
                nodes += nodesOf(prefixes, start, middle, nodeLength(prefixes, start, middle), level + 1);
            }
            if (middle < to) {
                nodes += nodesOf(prefixes, middle, to, nodeLength(prefixes, middle, to), level + 1);
            }
            return nodes;
        }

        private static int levelsOf(int[] prefixes, int from, int to, int length, int level) {
            if (level > ADDRESS_BITS) {
                return 0;
            }
            int start = behindNode(prefixes, from, to, length);
            int middle = firstWithBit(prefixes, start, to, length);
            int below = 0;
            if (start < middle) {
                below = levelsOf(prefixes, start, middle, nodeLength(prefixes, start, middle), level + 1);
            }
            if (middle < to) {
                below = Math.max(below, levelsOf(prefixes, middle, to, nodeLength(prefixes, middle, to), level + 1));
            }
            return 1 + below;
        }

        // the length of the shortest node that holds the entries from .. to - 1, at least one
        private static int nodeLength(int[] prefixes, int from, int to) {
            int first = Prefix.addressOf(prefixes[from]);
            int last = Prefix.addressOf(prefixes[to - 1]);
            return Math.min(Prefix.commonLength(first, last), Prefix.lengthOf(prefixes[from]));
        }

        // skips the entry that is the node itself: as the shortest one of its address it stands first
        private static int behindNode(int[] prefixes, int from, int to, int length) {
            return from < to && Prefix.lengthOf(prefixes[from]) == length ? from + 1 : from;
        }

        private static int firstWithBit(int[] prefixes, int from, int to, int place) {
            int at = from;
            while (at < to && !Prefix.hasBit(Prefix.addressOf(prefixes[at]), place)) {
                at++;
            }
            return at;
        }

        void copyFrom(Table other) {
            count = other.count;
            System.arraycopy(other.prefixes, 0, prefixes, 0, count);
            System.arraycopy(other.sorts, 0, sorts, 0, count);
            System.arraycopy(other.linkSets, 0, linkSets, 0, count);
        }
    }

    // Sets of links are held as bits, the link 0 as the lowest one.
    private static final class Router {
        final int number;
        final Letter[] letters = new Letter[MOST_ROUTERS];
        final int[] distances = new int[MOST_ROUTERS];
        final int[] firsts = new int[MOST_ROUTERS];
        final Table table = new Table();
        // whether anything that it reckons with was changed since it reckoned
        boolean isStale = true;

        Router(int number, Letter nothing) {
            this.number = number;
            for (int of = 0; of < MOST_ROUTERS; of++) {
                letters[of] = nothing;
                distances[of] = of == number ? 0 : NONE;
            }
        }

        void keep(Letter letter) {
            letters[letter.of] = letter;
            isStale = true;
        }

        void reckon(Link[] links, PrefixList networks, PrefixList statics) {
            if (!isStale) {
                return;
            }
            isStale = false;
            reckonWays(links);
            table.count = 0;
            enterNetworks(networks);
            enterStatics(statics, links);
            enterLearned();
        }

        // From the nearest router on, each one hands what it takes to come to it on to those behind its links.
        private void reckonWays(Link[] links) {
            for (int to = 0; to < MOST_ROUTERS; to++) {
                distances[to] = to == number ? 0 : NONE;
                firsts[to] = 0;
            }
            int done = 0;
            for (int round = 0; round < MOST_ROUTERS; round++) {
                int from = nearestBut(done);
                if (from == NONE) {
                    return;
                }
                done |= 1 << from;
                for (int link = 0; link < links.length; link++) {
                    if (letters[from].hasLink(link)) {
                        goOn(from, link, links[link].otherEnd(from));
                    }
                }
            }
        }

        private void goOn(int from, int link, int to) {
            if (!letters[to].hasLink(link)) {
                return;
            }
            int sum = distances[from] + letters[from].costs[link];
            int begin = from == number ? 1 << link : firsts[from];
            if (distances[to] == NONE || sum < distances[to]) {
                distances[to] = sum;
                firsts[to] = begin;
            } else if (sum == distances[to]) {
                firsts[to] |= begin;
            }
        }

        // the nearest router to which there is a distance, of several the one with the smallest number
        private int nearestBut(int done) {
            int best = NONE;
            for (int to = 0; to < MOST_ROUTERS; to++) {
                boolean isOpen = ((done >> to) & 1) == 0 && distances[to] != NONE;
                if (isOpen && (best == NONE || distances[to] < distances[best])) {
                    best = to;
                }
            }
            return best;
        }

        private void enterNetworks(PrefixList networks) {
            for (int i = 0; i < networks.count; i++) {
                if (networks.routers[i] == number) {
                    table.enter(networks.prefixes[i], LOCAL, 0);
                }
            }
        }

        private void enterStatics(PrefixList statics, Link[] links) {
            for (int i = 0; i < statics.count; i++) {
                int link = statics.links[i];
                if (statics.routers[i] == number && links[link].isUp) {
                    table.enter(statics.prefixes[i], STATIC, 1 << link);
                }
            }
        }

        private void enterLearned() {
            int done = 1 << number;
            for (int round = 0; round < MOST_ROUTERS; round++) {
                int from = nearestBut(done);
                if (from == NONE) {
                    return;
                }
                done |= 1 << from;
                int[] told = letters[from].networks;
                for (int i = 0; i < told.length; i++) {
                    table.enter(told[i], LEARNED, firsts[from]);
                }
            }
        }

        void copyFrom(Router other) {
            for (int of = 0; of < MOST_ROUTERS; of++) {
                letters[of] = other.letters[of];
            }
            System.arraycopy(other.distances, 0, distances, 0, MOST_ROUTERS);
            System.arraycopy(other.firsts, 0, firsts, 0, MOST_ROUTERS);
            table.copyFrom(other.table);
            isStale = other.isStale;
        }
    }

    // A packet is held as one number, that nothing needs to be made for it: from the lowest bit on its flow (4 bits),
    // its own number (6), its class (2), its size (9), and the life that is left.
    private static final class Packet {
        static int of(int flow, int number, int size, int ofClass) {
            return flow | number << 4 | ofClass << 10 | size << 12 | FULL_LIFE << 21;
        }

        static int flowOf(int packet) {
            return packet & 15;
        }

        static int numberOf(int packet) {
            return (packet >> 4) & 63;
        }

        static int classOf(int packet) {
            return (packet >> 10) & 3;
        }

        static int sizeOf(int packet) {
            return (packet >> 12) & 511;
        }

        static int lifeOf(int packet) {
            return packet >> 21;
        }

        // with a life that is 1 less
        static int older(int packet) {
            return packet - (1 << 21);
        }
    }

    // What is on its way along a link in one direction.
    private static final class Line {
        // at most two letters are written in a call, so the 512 calls of an object never come to as many
        static final int MOST_LETTERS = 2048;
        // one more than the longest delay, so that no two packets on their way share a slot
        static final int SLOTS = MOST_DELAY + 1;

        Letter[] letters = new Letter[8];
        int[] letterTicks = new int[8];
        int letterCount;
        final int[] packets = new int[SLOTS];
        int packetCount;

        Line() {
            for (int slot = 0; slot < SLOTS; slot++) {
                packets[slot] = NONE;
            }
        }

        void putLetter(Letter letter, int tick) {
            if (letterCount >= MOST_LETTERS) {
                return;
            }
            if (letterCount >= letters.length) {
                makeRoom(letterCount * 2);
            }
            letters[letterCount] = letter;
            letterTicks[letterCount] = tick;
            letterCount++;
        }

        private void makeRoom(int most) {
            Letter[] moreLetters = new Letter[most];
            int[] moreTicks = new int[most];
            for (int i = 0; i < letterCount; i++) {
                moreLetters[i] = letters[i];
                moreTicks[i] = letterTicks[i];
            }
            letters = moreLetters;
            letterTicks = moreTicks;
        }

        // how many letters come in this tick; as a link has one delay for all, they are the first ones
        int lettersDue(int tick) {
            int due = 0;
            while (due < letterCount && letterTicks[due] <= tick) {
                due++;
            }
            return due;
        }

        void removeLetters(int due) {
            for (int i = due; i < letterCount; i++) {
                letters[i - due] = letters[i];
                letterTicks[i - due] = letterTicks[i];
            }
            letterCount -= due;
        }

        void putPacket(int packet, int tick) {
            packets[Math.floorMod(tick, SLOTS)] = packet;
            packetCount++;
        }

        int takePacket(int tick) {
            int slot = Math.floorMod(tick, SLOTS);
            int packet = packets[slot];
            if (packet != NONE) {
                packets[slot] = NONE;
                packetCount--;
            }
            return packet;
        }

        void copyFrom(Line other) {
            letterCount = 0;
            if (letters.length < other.letterCount) {
                makeRoom(other.letters.length);
            }
            for (int i = 0; i < other.letterCount; i++) {
                letters[i] = other.letters[i];
                letterTicks[i] = other.letterTicks[i];
            }
            letterCount = other.letterCount;
            System.arraycopy(other.packets, 0, packets, 0, SLOTS);
            packetCount = other.packetCount;
        }
    }

    // One end of a link, with the line that leads away from it. All packets that wait stand in one row, as they
    // came, so that a new discipline finds them in order; the queue of a class is those of it.
    private static final class Port {
        static final int MOST_WAITING = MOST_LIMIT / LEAST_SIZE;
        static final int SHARE = 100;
        // far more than the shares that the longest packet takes
        static final int MOST_TURNS = 100;

        final Line line = new Line();
        int discipline = FIRST_COME;
        int limit = FIRST_LIMIT;
        boolean isEarly;
        int earlyCount;
        final int[] weights = new int[CLASSES];
        final int[] deficits = new int[CLASSES];
        int turn;
        boolean hasShare;
        final int[] queue = new int[MOST_WAITING];
        int queueLength;
        int bytes;
        // the one that is being sent, or NONE
        int packet = NONE;
        int bytesLeft;

        Port() {
            for (int ofClass = 0; ofClass < CLASSES; ofClass++) {
                weights[ofClass] = 1;
            }
        }

        void configure(int newDiscipline, int newLimit, boolean isEarlyNow) {
            discipline = newDiscipline;
            limit = newLimit;
            isEarly = isEarlyNow;
            earlyCount = 0;
            clearTurns();
        }

        void clearTurns() {
            for (int ofClass = 0; ofClass < CLASSES; ofClass++) {
                deficits[ofClass] = 0;
            }
            turn = 0;
            hasShare = false;
        }

        // returns the reason for which the packet is dropped, or NONE as it waits
        int accept(int comer) {
            int size = Packet.sizeOf(comer);
            if (bytes + size > limit || queueLength >= MOST_WAITING) {
                return OVER_LIMIT;
            }
            if (isEarly && 2 * bytes >= limit) {
                earlyCount++;
                if (earlyCount % 3 == 0) {
                    return EARLY;
                }
            }
            queue[queueLength] = comer;
            queueLength++;
            bytes += size;
            return NONE;
        }

        void send(int rate, int tick) {
            if (packet == NONE && queueLength > 0) {
                takeNext();
            }
            if (packet == NONE) {
                return;
            }
            bytesLeft -= Math.min(rate, bytesLeft);
            if (bytesLeft == 0) {
                line.putPacket(packet, tick);
                packet = NONE;
            }
        }

        private void takeNext() {
            int place = nextPlace();
            if (place < 0 || place >= queueLength) {
                return;
            }
            packet = queue[place];
            bytesLeft = Packet.sizeOf(packet);
            bytes -= bytesLeft;
            for (int i = place + 1; i < queueLength; i++) {
                queue[i - 1] = queue[i];
            }
            queueLength--;
        }

        private int nextPlace() {
            switch (discipline) {
                case BY_CLASSES:
                    return placeByClasses();
                case IN_TURNS:
                    return placeByTurns();
                default:
                    return 0;
            }
        }

        private int placeByClasses() {
            for (int ofClass = 0; ofClass < CLASSES; ofClass++) {
                int place = firstOf(ofClass);
                if (place != NONE) {
                    return place;
                }
            }
            return NONE;
        }

        private int placeByTurns() {
            for (int i = 0; i < MOST_TURNS; i++) {
                int place = firstOf(turn);
                if (place == NONE) {
                    deficits[turn] = 0;
                } else {
                    if (!hasShare) {
                        deficits[turn] += SHARE * weights[turn];
                        hasShare = true;
                    }
                    int size = Packet.sizeOf(queue[place]);
                    if (deficits[turn] >= size) {
                        deficits[turn] -= size;
                        return place;
                    }
                }
                turn = (turn + 1) % CLASSES;
                hasShare = false;
            }
            return NONE;
        }

        private int firstOf(int ofClass) {
            for (int i = 0; i < queueLength; i++) {
                if (Packet.classOf(queue[i]) == ofClass) {
                    return i;
                }
            }
            return NONE;
        }

        int countOf(int ofClass) {
            int many = 0;
            for (int i = 0; i < queueLength; i++) {
                many += Packet.classOf(queue[i]) == ofClass ? 1 : 0;
            }
            return many;
        }

        // drops all that waits here, is sent, or is on the line; tells it to the flows
        void lose(Flow[] flows) {
            for (int i = 0; i < queueLength; i++) {
                loseOne(flows, queue[i]);
            }
            queueLength = 0;
            bytes = 0;
            loseOne(flows, packet);
            packet = NONE;
            bytesLeft = 0;
            for (int slot = 0; slot < Line.SLOTS; slot++) {
                loseOne(flows, line.takePacket(slot));
            }
            line.letterCount = 0;
            clearTurns();
        }

        private static void loseOne(Flow[] flows, int lost) {
            if (lost != NONE) {
                flows[Packet.flowOf(lost)].drops[LINK_LOST]++;
            }
        }

        void copyFrom(Port other) {
            line.copyFrom(other.line);
            discipline = other.discipline;
            limit = other.limit;
            isEarly = other.isEarly;
            earlyCount = other.earlyCount;
            System.arraycopy(other.weights, 0, weights, 0, CLASSES);
            System.arraycopy(other.deficits, 0, deficits, 0, CLASSES);
            turn = other.turn;
            hasShare = other.hasShare;
            queueLength = other.queueLength;
            System.arraycopy(other.queue, 0, queue, 0, queueLength);
            bytes = other.bytes;
            packet = other.packet;
            bytesLeft = other.bytesLeft;
        }
    }

    private static final class Link {
        int a;
        int b;
        int cost;
        int rate;
        int delay;
        boolean isUp;
        final Port atA = new Port();
        final Port atB = new Port();

        boolean touches(int router) {
            return router == a || router == b;
        }

        int otherEnd(int router) {
            return router == a ? b : a;
        }

        Port portAt(int router) {
            return router == a ? atA : atB;
        }

        int countPackets() {
            return atA.line.packetCount + atB.line.packetCount;
        }

        void copyFrom(Link other) {
            a = other.a;
            b = other.b;
            cost = other.cost;
            rate = other.rate;
            delay = other.delay;
            isUp = other.isUp;
            atA.copyFrom(other.atA);
            atB.copyFrom(other.atB);
        }
    }

    private static final class Flow {
        int router;
        int address;
        int size;
        int ofClass;
        int start = NONE;
        int period;
        int count;
        // 0 as long as the flow is not shaped
        int rate;
        int burst;
        int tokens;
        final int[] shaper = new int[MOST_SHAPING];
        int shaperLength;
        int offered;
        int delivered;
        final int[] drops = new int[REASONS];
        int sumLate;
        int mostLate = NONE;
        int newest = NONE;
        int overtaken;

        // the number of the packet that is offered in the tick, or NONE
        int dueIn(int tick) {
            if (start == NONE || tick < start || period < 1) {
                return NONE;
            }
            int passed = tick - start;
            boolean isDue = passed % period == 0 && passed / period < count;
            return isDue ? passed / period : NONE;
        }

        boolean isShaped() {
            return rate > 0;
        }

        void gainTokens() {
            tokens = Math.min(tokens + rate, burst);
        }

        void push(int packet) {
            if (shaperLength >= MOST_SHAPING) {
                drops[SHAPER_FULL]++;
                return;
            }
            shaper[shaperLength] = packet;
            shaperLength++;
        }

        // the first packet that waits, if there are tokens for it, or NONE
        int pull() {
            if (shaperLength == 0 || tokens < size) {
                return NONE;
            }
            tokens -= size;
            int packet = shaper[0];
            for (int i = 1; i < shaperLength; i++) {
                shaper[i - 1] = shaper[i];
            }
            shaperLength--;
            return packet;
        }

        void deliver(int number, int tick) {
            int late = tick - (start + number * period);
            delivered++;
            sumLate += late;
            mostLate = Math.max(mostLate, late);
            overtaken += number < newest ? 1 : 0;
            newest = Math.max(newest, number);
        }

        void copyFrom(Flow other) {
            router = other.router;
            address = other.address;
            size = other.size;
            ofClass = other.ofClass;
            start = other.start;
            period = other.period;
            count = other.count;
            rate = other.rate;
            burst = other.burst;
            tokens = other.tokens;
            System.arraycopy(other.shaper, 0, shaper, 0, MOST_SHAPING);
            shaperLength = other.shaperLength;
            offered = other.offered;
            delivered = other.delivered;
            System.arraycopy(other.drops, 0, drops, 0, REASONS);
            sumLate = other.sumLate;
            mostLate = other.mostLate;
            newest = other.newest;
            overtaken = other.overtaken;
        }
    }

    // The whole state, with what calls and ticks change in it. Its callers have looked at their numbers.
    private static final class Net {
        int time;
        int routerCount;
        int linkCount;
        int flowCount;
        final Router[] routers = new Router[MOST_ROUTERS];
        final Link[] links = new Link[MOST_LINKS];
        final Flow[] flows = new Flow[MOST_FLOWS];
        final PrefixList networks = new PrefixList(MOST_NETWORKS);
        final PrefixList statics = new PrefixList(MOST_STATICS);

        Net() {
            for (int i = 0; i < MOST_FLOWS; i++) {
                flows[i] = new Flow();
            }
            for (int i = 0; i < MOST_LINKS; i++) {
                links[i] = new Link();
            }
            for (int i = 0; i < MOST_ROUTERS; i++) {
                routers[i] = new Router(i, new Letter(i, 0, 0, new int[MOST_LINKS], new int[0]));
            }
        }

        int newRouter() {
            routerCount++;
            return routerCount - 1;
        }

        int newLink(int a, int b, int cost, int rate, int delay) {
            int number = linkCount;
            linkCount++;
            Link link = links[number];
            link.a = a;
            link.b = b;
            link.cost = cost;
            link.rate = rate;
            link.delay = delay;
            raise(number);
            return number;
        }

        int changeCost(int number, int cost) {
            Link link = links[number];
            int before = link.cost;
            link.cost = cost;
            if (cost != before && link.isUp) {
                writeLetter(link.a);
                writeLetter(link.b);
            }
            return before;
        }

        void raise(int number) {
            Link link = links[number];
            link.isUp = true;
            writeLetter(link.a);
            writeLetter(link.b);
            tellKept(link.a, link);
            tellKept(link.b, link);
        }

        void cut(int number) {
            Link link = links[number];
            link.isUp = false;
            link.atA.lose(flows);
            link.atB.lose(flows);
            writeLetter(link.a);
            writeLetter(link.b);
        }

        int newNetwork(int router, int prefix) {
            int number = networks.add(router, prefix, NONE);
            writeLetter(router);
            return number;
        }

        int loseNetwork(int number) {
            int router = networks.routers[number];
            networks.remove(number);
            writeLetter(router);
            return networks.count;
        }

        int newStatic(int router, int prefix, int link) {
            routers[router].isStale = true;
            return statics.add(router, prefix, link);
        }

        int loseStatic(int number) {
            routers[statics.routers[number]].isStale = true;
            statics.remove(number);
            return statics.count;
        }

        int newFlow(int router, int address, int size, int ofClass) {
            Flow flow = flows[flowCount];
            flow.router = router;
            flow.address = address;
            flow.size = size;
            flow.ofClass = ofClass;
            flowCount++;
            return flowCount - 1;
        }

        private void writeLetter(int number) {
            Router router = routers[number];
            int linkSet = 0;
            int[] costs = new int[MOST_LINKS];
            for (int i = 0; i < linkCount; i++) {
                if (links[i].isUp && links[i].touches(number)) {
                    linkSet |= 1 << i;
                    costs[i] = links[i].cost;
                }
            }
            int next = router.letters[number].number + 1;
            Letter letter = new Letter(number, next, linkSet, costs, networks.prefixesAt(number));
            router.keep(letter);
            tellOthers(number, letter, NONE);
        }

        private void tellOthers(int router, Letter letter, int butLink) {
            for (int i = 0; i < linkCount; i++) {
                if (i != butLink && links[i].isUp && links[i].touches(router)) {
                    tell(router, letter, links[i]);
                }
            }
        }

        private void tellKept(int router, Link link) {
            for (int of = 0; of < routerCount; of++) {
                Letter kept = routers[router].letters[of];
                if (of != router && kept.number > 0) {
                    tell(router, kept, link);
                }
            }
        }

        private void tell(int router, Letter letter, Link link) {
            link.portAt(router).line.putLetter(letter, time + link.delay);
        }

        int lettersOnTheirWay() {
            int sum = 0;
            for (int i = 0; i < linkCount; i++) {
                sum += links[i].atA.line.letterCount + links[i].atB.line.letterCount;
            }
            return sum;
        }

        void tick() {
            for (int i = 0; i < linkCount; i++) {
                takeLetters(i, links[i].atA.line, links[i].b);
                takeLetters(i, links[i].atB.line, links[i].a);
            }
            for (int i = 0; i < linkCount; i++) {
                deal(links[i].b, links[i].atA.line.takePacket(time));
                deal(links[i].a, links[i].atB.line.takePacket(time));
            }
            for (int i = 0; i < flowCount; i++) {
                runFlow(i);
            }
            for (int i = 0; i < routerCount; i++) {
                routers[i].reckon(links, networks, statics);
            }
            for (int i = 0; i < linkCount; i++) {
                links[i].atA.send(links[i].rate, time + links[i].delay);
                links[i].atB.send(links[i].rate, time + links[i].delay);
            }
            time++;
        }

        private void takeLetters(int link, Line line, int number) {
            Router router = routers[number];
            int due = line.lettersDue(time);
            for (int i = 0; i < due; i++) {
                Letter letter = line.letters[i];
                if (letter.number > router.letters[letter.of].number) {
                    router.keep(letter);
                    tellOthers(number, letter, link);
                }
            }
            line.removeLetters(due);
        }

        private void runFlow(int number) {
            Flow flow = flows[number];
            flow.gainTokens();
            int due = flow.dueIn(time);
            if (due != NONE) {
                int packet = Packet.of(number, due, flow.size, flow.ofClass);
                flow.offered++;
                if (flow.isShaped()) {
                    flow.push(packet);
                } else {
                    deal(flow.router, packet);
                }
            }
            for (int i = 0; i < MOST_SHAPING; i++) {
                deal(flow.router, flow.pull());
            }
        }

        // for NONE there is nothing to deal with
        private void deal(int router, int packet) {
            if (packet == NONE) {
                return;
            }
            Flow flow = flows[Packet.flowOf(packet)];
            int link = linkToward(router, Packet.flowOf(packet));
            if (link == HERE) {
                flow.deliver(Packet.numberOf(packet), time);
                return;
            }
            int reason = link == NOT_FOUND ? NO_ENTRY : sendOn(router, packet, links[link]);
            if (reason != NONE) {
                flow.drops[reason]++;
            }
        }

        // returns the reason for which the packet is dropped, or NONE as it waits
        private int sendOn(int router, int packet, Link link) {
            if (Packet.lifeOf(packet) <= 1) {
                return LIFE_OVER;
            }
            return link.isUp ? link.portAt(router).accept(Packet.older(packet)) : LINK_DOWN;
        }

        int linkToward(int router, int flow) {
            Table table = routers[router].table;
            int entry = table.find(flows[flow].address);
            if (entry == NONE) {
                return NOT_FOUND;
            }
            if (table.sorts[entry] == LOCAL) {
                return HERE;
            }
            int linkSet = table.linkSets[entry];
            int many = Integer.bitCount(linkSet);
            return many == 0 ? NOT_FOUND : linkAt(linkSet, (flow * 7 + router) % many);
        }

        private static int linkAt(int linkSet, int place) {
            int left = place;
            for (int link = 0; link < MOST_LINKS; link++) {
                if (((linkSet >> link) & 1) != 0) {
                    if (left == 0) {
                        return link;
                    }
                    left--;
                }
            }
            return NOT_FOUND;
        }

        // by the same tables, more steps than there are routers lead to one of them once more
        int follow(int flow) {
            int at = flows[flow].router;
            for (int steps = 0; steps < MOST_ROUTERS; steps++) {
                int link = linkToward(at, flow);
                if (link == HERE) {
                    return steps;
                }
                if (link == NOT_FOUND) {
                    return NOT_FOUND;
                }
                at = links[link].otherEnd(at);
            }
            return ROUND;
        }

        void copyFrom(Net other) {
            time = other.time;
            routerCount = other.routerCount;
            linkCount = other.linkCount;
            flowCount = other.flowCount;
            for (int i = 0; i < routerCount; i++) {
                routers[i].copyFrom(other.routers[i]);
            }
            for (int i = 0; i < linkCount; i++) {
                links[i].copyFrom(other.links[i]);
            }
            for (int i = 0; i < flowCount; i++) {
                flows[i].copyFrom(other.flows[i]);
            }
            networks.copyFrom(other.networks);
            statics.copyFrom(other.statics);
        }
    }
}
