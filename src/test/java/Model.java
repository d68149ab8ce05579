import java.util.ArrayList;
import java.util.HashMap;
import java.util.HashSet;
import java.util.List;
import java.util.Map;
import java.util.Set;
import java.util.TreeMap;

// The document once more, written as plainly and as unlike Switchyard.java as can be: prefixes are texts of bits,
// tries are sets of nodes, everything is reckoned anew in each tick, and what would be is found by doing all
// calls over again on a new model. ModelTest compares the two.
final class Model {
    record Letter(int of, int number, Map<Integer, Integer> costs, List<String> networks) { }

    record Sent(Letter letter, int due) { }

    record Network(int router, String prefix) { }

    record Static(int router, String prefix, int link) { }

    record Entry(String prefix, int sort, List<Integer> links) { }

    record Moving(Packet packet, int due) { }

    static final class Packet {
        Flow flow;
        int number;
        int offeredIn;
        int life = 12;
        long cameToPort;
    }

    static final class Flow {
        int number;
        int router;
        String address;
        int size;
        int ofClass;
        boolean isTold;
        int start;
        int period;
        int count;
        boolean isShaped;
        int rate;
        int burst;
        int tokens;
        List<Packet> shaper = new ArrayList<>();
        int offered;
        int[] dropped = new int[7];
        List<Integer> lates = new ArrayList<>();
        List<Integer> arrived = new ArrayList<>();
    }

    static final class Port {
        int discipline = 0;
        int limit = 2000;
        boolean isEarly = false;
        int early = 0;
        int[] weights = {1, 1, 1, 1};
        int[] deficits = new int[4];
        int turn = 0;
        Set<Integer> shares = new HashSet<>();
        List<List<Packet>> queues = new ArrayList<>();
        Packet sent = null;
        int left = 0;
        List<Sent> letters = new ArrayList<>();
        List<Moving> packets = new ArrayList<>();

        Port() {
            for (int i = 0; i < 4; i++) {
                queues.add(new ArrayList<>());
            }
        }

        List<Packet> all() {
            List<Packet> all = new ArrayList<>();
            for (List<Packet> queue : queues) {
                all.addAll(queue);
            }
            all.sort((p, q) -> Long.compare(p.cameToPort, q.cameToPort));
            return all;
        }

        int bytes() {
            return all().stream().mapToInt(p -> p.flow.size).sum();
        }

        List<Packet> queueFor(Packet p) {
            return queues.get(discipline == 0 ? 0 : p.flow.ofClass);
        }

        void noTurns() {
            deficits = new int[4];
            turn = 0;
            shares.clear();
        }
    }

    static final class Link {
        int number;
        int a;
        int b;
        int cost;
        int rate;
        int delay;
        boolean isUp;
        Port atA = new Port();
        Port atB = new Port();

        Port at(int router) {
            return router == a ? atA : atB;
        }

        int other(int router) {
            return router == a ? b : a;
        }

        boolean isOf(int router) {
            return a == router || b == router;
        }
    }

    static final class Router {
        int number;
        Map<Integer, Letter> kept = new TreeMap<>();
        Map<Integer, Integer> distances = new HashMap<>();
        Map<Integer, List<Integer>> firsts = new HashMap<>();
        List<Entry> table = new ArrayList<>();
    }

    interface Change {
        void on(Model model);
    }

    private final List<Change> log = new ArrayList<>();
    private final List<Router> routers = new ArrayList<>();
    private final List<Link> links = new ArrayList<>();
    private final List<Network> networks = new ArrayList<>();
    private final List<Static> statics = new ArrayList<>();
    private final List<Flow> flows = new ArrayList<>();
    private int time = 0;
    private long comings = 0;

    // ---- checks

    private static void number(int number, int count) {
        if (number < 0 || number >= count) {
            throw new IndexOutOfBoundsException();
        }
    }

    private static void range(long value, long least, long most) {
        if (value < least || value > most) {
            throw new IllegalArgumentException();
        }
    }

    private static void state(boolean isGood) {
        if (!isGood) {
            throw new IllegalStateException();
        }
    }

    private static String bits(int address) {
        StringBuilder text = new StringBuilder();
        for (int i = 15; i >= 0; i--) {
            text.append((address >> i) & 1);
        }
        return text.toString();
    }

    private static String prefix(int address, int length) {
        range(address, 0, 65535);
        range(length, 0, 16);
        String text = bits(address);
        if (text.substring(length).contains("1")) {
            throw new IllegalArgumentException();
        }
        return text.substring(0, length);
    }

    // ---- the network

    public int addRouter() {
        state(routers.size() < 8);
        log.add(m -> m.addRouter());
        Router r = new Router();
        r.number = routers.size();
        routers.add(r);
        for (Router x : routers) {
            x.kept.put(r.number, new Letter(r.number, 0, Map.of(), List.of()));
            r.kept.put(x.number, new Letter(x.number, 0, Map.of(), List.of()));
        }
        r.distances.put(r.number, 0);
        return r.number;
    }

    public int addLink(int a, int b, int cost, int rate, int delay) {
        number(a, routers.size());
        number(b, routers.size());
        range(a == b ? 1 : 0, 0, 0);
        range(cost, 1, 50);
        range(rate, 1, 200);
        range(delay, 1, 20);
        state(links.size() < 14);
        log.add(m -> m.addLink(a, b, cost, rate, delay));
        Link link = new Link();
        link.number = links.size();
        link.a = a;
        link.b = b;
        link.cost = cost;
        link.rate = rate;
        link.delay = delay;
        links.add(link);
        comesUp(link);
        return link.number;
    }

    private void comesUp(Link link) {
        link.isUp = true;
        write(link.a);
        write(link.b);
        for (int end : new int[] {link.a, link.b}) {
            for (Letter kept : List.copyOf(routers.get(end).kept.values())) {
                if (kept.of() != end && kept.number() > 0) {
                    link.at(end).letters.add(new Sent(kept, time + link.delay));
                }
            }
        }
    }

    private void write(int router) {
        Map<Integer, Integer> costs = new TreeMap<>();
        for (Link link : links) {
            if (link.isUp && link.isOf(router)) {
                costs.put(link.number, link.cost);
            }
        }
        List<String> at = networks.stream().filter(n -> n.router() == router).map(Network::prefix).toList();
        int number = routers.get(router).kept.get(router).number() + 1;
        keepAndSend(router, new Letter(router, number, costs, at), null);
    }

    private void keepAndSend(int router, Letter letter, Link by) {
        routers.get(router).kept.put(letter.of(), letter);
        for (Link link : links) {
            if (link != by && link.isUp && link.isOf(router)) {
                link.at(router).letters.add(new Sent(letter, time + link.delay));
            }
        }
    }

    public int setCost(int link, int cost) {
        number(link, links.size());
        range(cost, 1, 50);
        log.add(m -> m.setCost(link, cost));
        Link l = links.get(link);
        int before = l.cost;
        l.cost = cost;
        if (before != cost && l.isUp) {
            write(l.a);
            write(l.b);
        }
        return before;
    }

    public boolean setUp(int link, boolean isUp) {
        number(link, links.size());
        log.add(m -> m.setUp(link, isUp));
        Link l = links.get(link);
        boolean before = l.isUp;
        if (before && !isUp) {
            l.isUp = false;
            for (Port port : List.of(l.atA, l.atB)) {
                List<Packet> lost = port.all();
                if (port.sent != null) {
                    lost.add(port.sent);
                }
                port.packets.forEach(p -> lost.add(p.packet()));
                lost.forEach(p -> p.flow.dropped[6]++);
                port.queues.forEach(List::clear);
                port.sent = null;
                port.left = 0;
                port.packets.clear();
                port.letters.clear();
                port.noTurns();
            }
            write(l.a);
            write(l.b);
        } else if (!before && isUp) {
            comesUp(l);
        }
        return before;
    }

    public int addNetwork(int router, int address, int length) {
        number(router, routers.size());
        Network network = new Network(router, prefix(address, length));
        state(networks.size() < 24 && !networks.contains(network));
        log.add(m -> m.addNetwork(router, address, length));
        networks.add(network);
        write(router);
        return networks.size() - 1;
    }

    public int dropNetwork(int network) {
        number(network, networks.size());
        log.add(m -> m.dropNetwork(network));
        int router = networks.remove(network).router();
        write(router);
        return networks.size();
    }

    public int addStatic(int router, int address, int length, int link) {
        number(router, routers.size());
        number(link, links.size());
        String prefix = prefix(address, length);
        range(links.get(link).isOf(router) ? 1 : 0, 1, 1);
        state(statics.size() < 24);
        log.add(m -> m.addStatic(router, address, length, link));
        statics.add(new Static(router, prefix, link));
        return statics.size() - 1;
    }

    public int dropStatic(int route) {
        number(route, statics.size());
        log.add(m -> m.dropStatic(route));
        statics.remove(route);
        return statics.size();
    }

    private Port port(int link, boolean isAtB) {
        number(link, links.size());
        return isAtB ? links.get(link).atB : links.get(link).atA;
    }

    public int setPort(int link, boolean isAtB, int discipline, int limit, boolean isEarly) {
        Port port = port(link, isAtB);
        range(discipline, 0, 2);
        range(limit, 50, 5000);
        log.add(m -> m.setPort(link, isAtB, discipline, limit, isEarly));
        List<Packet> all = port.all();
        port.discipline = discipline;
        port.limit = limit;
        port.isEarly = isEarly;
        port.early = 0;
        port.noTurns();
        port.queues.forEach(List::clear);
        all.forEach(p -> port.queueFor(p).add(p));
        return all.size();
    }

    public int setWeight(int link, boolean isAtB, int ofClass, int weight) {
        Port port = port(link, isAtB);
        number(ofClass, 4);
        range(weight, 1, 4);
        log.add(m -> m.setWeight(link, isAtB, ofClass, weight));
        int before = port.weights[ofClass];
        port.weights[ofClass] = weight;
        return before;
    }

    // ---- flows

    public int addFlow(int router, int address, int size, int ofClass) {
        number(router, routers.size());
        range(address, 0, 65535);
        range(size, 20, 500);
        range(ofClass, 0, 3);
        state(flows.size() < 12);
        log.add(m -> m.addFlow(router, address, size, ofClass));
        Flow f = new Flow();
        f.number = flows.size();
        f.router = router;
        f.address = bits(address);
        f.size = size;
        f.ofClass = ofClass;
        flows.add(f);
        return f.number;
    }

    public int schedule(int flow, int start, int period, int count) {
        number(flow, flows.size());
        range(start, time, time + 5000L);
        range(period, 1, 50);
        range(count, 1, 60);
        Flow f = flows.get(flow);
        state(!f.isTold);
        log.add(m -> m.schedule(flow, start, period, count));
        f.isTold = true;
        f.start = start;
        f.period = period;
        f.count = count;
        int last = start;
        for (int k = 1; k < count; k++) {
            last += period;
        }
        return last;
    }

    public int shape(int flow, int rate, int burst) {
        number(flow, flows.size());
        Flow f = flows.get(flow);
        range(rate, 1, 500);
        range(burst, f.size, 5000);
        log.add(m -> m.shape(flow, rate, burst));
        f.isShaped = true;
        f.rate = rate;
        f.burst = burst;
        f.tokens = burst;
        return f.shaper.size();
    }

    // ---- time

    public int step(int ticks) {
        range(ticks, 1, 60);
        log.add(m -> m.step(ticks));
        for (int i = 0; i < ticks; i++) {
            tick();
        }
        return time;
    }

    private void tick() {
        for (Link link : links) {
            lettersCome(link, link.atA, link.b);
            lettersCome(link, link.atB, link.a);
        }
        for (Link link : links) {
            packetsCome(link.atA, link.b);
            packetsCome(link.atB, link.a);
        }
        for (Flow f : flows) {
            run(f);
        }
        for (Router r : routers) {
            reckon(r);
        }
        for (Link link : links) {
            send(link, link.atA);
            send(link, link.atB);
        }
        time++;
    }

    private void lettersCome(Link link, Port from, int to) {
        for (Sent sent : List.copyOf(from.letters)) {
            if (sent.due() == time) {
                from.letters.remove(0);
                if (sent.letter().number() > routers.get(to).kept.get(sent.letter().of()).number()) {
                    keepAndSend(to, sent.letter(), link);
                }
            }
        }
    }

    private void packetsCome(Port from, int to) {
        for (Moving moving : List.copyOf(from.packets)) {
            if (moving.due() == time) {
                from.packets.remove(moving);
                deal(to, moving.packet());
            }
        }
    }

    private void run(Flow f) {
        if (f.isShaped) {
            f.tokens += f.rate;
            if (f.tokens > f.burst) {
                f.tokens = f.burst;
            }
        }
        for (int k = 0; f.isTold && k < f.count; k++) {
            if (time == f.start + k * f.period) {
                Packet p = new Packet();
                p.flow = f;
                p.number = k;
                p.offeredIn = time;
                f.offered++;
                if (f.isShaped && f.shaper.size() == 10) {
                    f.dropped[0]++;
                } else {
                    f.shaper.add(p);
                }
            }
        }
        while (!f.shaper.isEmpty() && (!f.isShaped || f.tokens >= f.size)) {
            if (f.isShaped) {
                f.tokens -= f.size;
            }
            deal(f.router, f.shaper.remove(0));
        }
    }

    private Entry lookUp(Router r, String address) {
        Entry best = null;
        for (Entry e : r.table) {
            if (address.startsWith(e.prefix()) && (best == null || e.prefix().length() > best.prefix().length())) {
                best = e;
            }
        }
        return best;
    }

    private void deal(int at, Packet p) {
        Entry e = lookUp(routers.get(at), p.flow.address);
        if (e == null) {
            p.flow.dropped[1]++;
            return;
        }
        if (e.sort() == 0) {
            p.flow.lates.add(time - p.offeredIn);
            p.flow.arrived.add(p.number);
            return;
        }
        p.life--;
        if (p.life == 0) {
            p.flow.dropped[2]++;
            return;
        }
        Link link = links.get(e.links().get((p.flow.number * 7 + at) % e.links().size()));
        if (!link.isUp) {
            p.flow.dropped[3]++;
            return;
        }
        Port port = link.at(at);
        int bytes = port.bytes();
        if (bytes + p.flow.size > port.limit) {
            p.flow.dropped[4]++;
            return;
        }
        if (port.isEarly && bytes * 2 >= port.limit) {
            port.early++;
            if (port.early % 3 == 0) {
                p.flow.dropped[5]++;
                return;
            }
        }
        p.cameToPort = comings++;
        port.queueFor(p).add(p);
    }

    private void reckon(Router r) {
        r.distances = distancesFrom(r, r.number);
        r.firsts = new HashMap<>();
        for (int to : r.distances.keySet()) {
            List<Integer> firsts = new ArrayList<>();
            for (Link link : links) {
                int next = link.other(r.number);
                if (to != r.number && link.isOf(r.number) && counts(r, link)) {
                    Integer rest = distancesFrom(r, next).get(to);
                    int cost = r.kept.get(r.number).costs().get(link.number);
                    if (rest != null && cost + rest == r.distances.get(to)) {
                        firsts.add(link.number);
                    }
                }
            }
            r.firsts.put(to, firsts);
        }
        reckonTable(r);
    }

    private boolean counts(Router r, Link link) {
        return r.kept.get(link.a).costs().containsKey(link.number)
            && r.kept.get(link.b).costs().containsKey(link.number);
    }

    private Map<Integer, Integer> distancesFrom(Router r, int from) {
        Map<Integer, Integer> distances = new HashMap<>();
        distances.put(from, 0);
        for (int round = 0; round < routers.size(); round++) {
            for (Link link : links) {
                for (int end : new int[] {link.a, link.b}) {
                    if (counts(r, link) && distances.containsKey(end)) {
                        int sum = distances.get(end) + r.kept.get(end).costs().get(link.number);
                        distances.merge(link.other(end), sum, Math::min);
                    }
                }
            }
        }
        return distances;
    }

    private void reckonTable(Router r) {
        Set<String> prefixes = new HashSet<>();
        networks.forEach(n -> prefixes.add(n.prefix()));
        statics.forEach(s -> prefixes.add(s.prefix()));
        r.kept.values().forEach(l -> prefixes.addAll(l.networks()));
        r.table = new ArrayList<>();
        for (String prefix : prefixes) {
            Entry e = entryFor(r, prefix);
            if (e != null) {
                r.table.add(e);
            }
        }
    }

    private Entry entryFor(Router r, String prefix) {
        if (networks.contains(new Network(r.number, prefix))) {
            return new Entry(prefix, 0, List.of());
        }
        for (Static s : statics) {
            if (s.router() == r.number && s.prefix().equals(prefix) && links.get(s.link()).isUp) {
                return new Entry(prefix, 1, List.of(s.link()));
            }
        }
        int best = -1;
        for (Letter l : r.kept.values()) {
            if (l.of() != r.number && l.networks().contains(prefix) && r.distances.containsKey(l.of())
                && (best < 0 || r.distances.get(l.of()) < r.distances.get(best))) {
                best = l.of();
            }
        }
        return best < 0 ? null : new Entry(prefix, 2, r.firsts.get(best));
    }

    private void send(Link link, Port port) {
        if (port.sent == null && !port.all().isEmpty()) {
            port.sent = take(port);
            port.left = port.sent.flow.size;
        }
        if (port.sent != null) {
            port.left = Math.max(0, port.left - link.rate);
            if (port.left == 0) {
                port.packets.add(new Moving(port.sent, time + link.delay));
                port.sent = null;
            }
        }
    }

    private Packet take(Port port) {
        if (port.discipline != 2) {
            for (List<Packet> queue : port.queues) {
                if (!queue.isEmpty()) {
                    return queue.remove(0);
                }
            }
        }
        while (true) {
            List<Packet> queue = port.queues.get(port.turn);
            if (queue.isEmpty()) {
                port.deficits[port.turn] = 0;
            } else {
                if (port.shares.add(port.turn)) {
                    port.deficits[port.turn] += 100 * port.weights[port.turn];
                }
                int size = queue.get(0).flow.size;
                if (port.deficits[port.turn] >= size) {
                    port.deficits[port.turn] -= size;
                    return queue.remove(0);
                }
            }
            port.shares.clear();
            port.turn = port.turn == 3 ? 0 : port.turn + 1;
        }
    }

    public int time() {
        return time;
    }

    public int routers() {
        return routers.size();
    }

    public int links() {
        return links.size();
    }

    public int networks() {
        return networks.size();
    }

    public int statics() {
        return statics.size();
    }

    public int flows() {
        return flows.size();
    }

    public boolean isUp(int link) {
        number(link, links.size());
        return links.get(link).isUp;
    }

    // ---- what routers know

    private Router router(int router) {
        number(router, routers.size());
        return routers.get(router);
    }

    public int letterOf(int router, int of) {
        Router r = router(router);
        router(of);
        return r.kept.get(of).number();
    }

    public int letters() {
        int sum = 0;
        for (Link link : links) {
            sum += link.atA.letters.size() + link.atB.letters.size();
        }
        return sum;
    }

    public boolean isSettled() {
        return letters() == 0;
    }

    public int distance(int router, int to) {
        Router r = router(router);
        router(to);
        return r.distances.getOrDefault(to, -1);
    }

    public int firstLinks(int router, int to) {
        Router r = router(router);
        router(to);
        return r.firsts.getOrDefault(to, List.of()).size();
    }

    // ---- tables and tries

    public int entries(int router) {
        return router(router).table.size();
    }

    private Set<String> trie(int router) {
        List<Entry> table = router(router).table;
        Set<String> nodes = new HashSet<>();
        nodes.add("");
        for (Entry e : table) {
            nodes.add(e.prefix());
            for (Entry f : table) {
                int n = 0;
                while (n < e.prefix().length() && n < f.prefix().length()
                    && e.prefix().charAt(n) == f.prefix().charAt(n)) {
                    n++;
                }
                nodes.add(e.prefix().substring(0, n));
            }
        }
        return nodes;
    }

    public int trieNodes(int router) {
        return trie(router).size();
    }

    public int trieDepth(int router) {
        int depth = 0;
        Set<String> nodes = trie(router);
        for (String node : nodes) {
            depth = Math.max(depth, (int) nodes.stream().filter(node::startsWith).count());
        }
        return depth;
    }

    public int looks(int router, int address) {
        Set<String> nodes = trie(router);
        range(address, 0, 65535);
        String bits = bits(address);
        String at = "";
        int looks = 1;
        while (at.length() < 16) {
            String side = bits.charAt(at.length()) == '1' ? at + "1" : at + "0";
            String next = null;
            for (String node : nodes) {
                if (node.startsWith(side) && (next == null || node.length() < next.length())) {
                    next = node;
                }
            }
            if (next == null) {
                return looks;
            }
            looks++;
            if (!bits.startsWith(next)) {
                return looks;
            }
            at = next;
        }
        return looks;
    }

    public int found(int router, int address) {
        Router r = router(router);
        range(address, 0, 65535);
        Entry e = lookUp(r, bits(address));
        return e == null ? -1 : e.prefix().length();
    }

    public int sortOf(int router, int address) {
        Router r = router(router);
        range(address, 0, 65535);
        Entry e = lookUp(r, bits(address));
        return e == null ? -1 : e.sort();
    }

    private Flow flow(int flow) {
        number(flow, flows.size());
        return flows.get(flow);
    }

    public int nextLink(int router, int flow) {
        Router r = router(router);
        Entry e = lookUp(r, flow(flow).address);
        if (e == null) {
            return -1;
        }
        return e.sort() == 0 ? -2 : e.links().get((flow * 7 + router) % e.links().size());
    }

    public int route(int flow) {
        List<Integer> visited = new ArrayList<>();
        int at = flow(flow).router;
        while (!visited.contains(at)) {
            visited.add(at);
            int link = nextLink(at, flow);
            if (link == -1) {
                return -1;
            }
            if (link == -2) {
                return visited.size() - 1;
            }
            at = links.get(link).other(at);
        }
        return -2;
    }

    // ---- ports

    public int waiting(int link, boolean isAtB) {
        return port(link, isAtB).bytes();
    }

    public int queued(int link, boolean isAtB, int ofClass) {
        Port port = port(link, isAtB);
        number(ofClass, 4);
        return (int) port.all().stream().filter(p -> p.flow.ofClass == ofClass).count();
    }

    public int sending(int link, boolean isAtB) {
        return port(link, isAtB).left;
    }

    public int deficit(int link, boolean isAtB, int ofClass) {
        Port port = port(link, isAtB);
        number(ofClass, 4);
        return port.deficits[ofClass];
    }

    public int onLink(int link) {
        return port(link, false).packets.size() + port(link, true).packets.size();
    }

    // ---- what became of flows

    public int offered(int flow) {
        return flow(flow).offered;
    }

    public int shaping(int flow) {
        return flow(flow).shaper.size();
    }

    public int tokens(int flow) {
        return flow(flow).tokens;
    }

    public int delivered(int flow) {
        return flow(flow).arrived.size();
    }

    public int dropped(int flow, int reason) {
        Flow f = flow(flow);
        number(reason, 7);
        return f.dropped[reason];
    }

    public int latest(int flow) {
        return flow(flow).lates.stream().mapToInt(x -> x).max().orElse(-1);
    }

    public double meanLate(int flow) {
        return flow(flow).lates.stream().mapToInt(x -> x).average().orElse(0);
    }

    public int outOfOrder(int flow) {
        List<Integer> arrived = flow(flow).arrived;
        int many = 0;
        for (int i = 0; i < arrived.size(); i++) {
            int number = arrived.get(i);
            many += arrived.subList(0, i).stream().anyMatch(n -> n > number) ? 1 : 0;
        }
        return many;
    }

    // ---- what would be

    private Model again() {
        Model model = new Model();
        List.copyOf(log).forEach(change -> change.on(model));
        return model;
    }

    public int deliveredIn(int flow, int ticks) {
        flow(flow);
        range(ticks, 1, 60);
        Model model = again();
        model.step(ticks);
        return model.delivered(flow);
    }

    public int settledIn(int most) {
        range(most, 1, 60);
        Model model = again();
        for (int i = 0; i <= most; i++) {
            if (model.isSettled()) {
                return i;
            }
            model.step(1);
        }
        return -1;
    }

    public long digest() {
        List<Integer> x = new ArrayList<>(List.of(time(), routers(), links(), networks(), statics(), flows(),
            letters()));
        for (int r = 0; r < routers(); r++) {
            for (int o = 0; o < routers(); o++) {
                x.addAll(List.of(letterOf(r, o), distance(r, o), firstLinks(r, o)));
            }
            x.addAll(List.of(entries(r), trieNodes(r), trieDepth(r)));
        }
        for (int l = 0; l < links(); l++) {
            x.addAll(List.of(isUp(l) ? 1 : 0, onLink(l)));
            for (boolean isAtB : new boolean[] {false, true}) {
                x.addAll(List.of(waiting(l, isAtB), sending(l, isAtB)));
                for (int c = 0; c < 4; c++) {
                    x.addAll(List.of(queued(l, isAtB, c), deficit(l, isAtB, c)));
                }
            }
        }
        for (int f = 0; f < flows(); f++) {
            x.addAll(List.of(offered(f), shaping(f), tokens(f), delivered(f)));
            for (int reason = 0; reason < 7; reason++) {
                x.add(dropped(f, reason));
            }
            x.addAll(List.of(latest(f), outOfOrder(f), route(f)));
            for (int r = 0; r < routers(); r++) {
                x.add(nextLink(r, f));
            }
        }
        long d = 58026;
        for (int value : x) {
            d = d * 31 + value;
        }
        return d;
    }
}
