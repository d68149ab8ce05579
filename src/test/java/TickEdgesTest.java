// The edges that the sections 5 and 6 name: of flows and shapers, of the life of a packet, of ports, and of what comes
// first in a tick. Ahead of each test stands the sentence that it is for.
public final class TickEdgesTest {
    private static final Check c = new Check("TickEdgesTest");

    public static void main(String[] args) {
        fromItsStartOn();
        inEachPeriodthTick();
        asManyAsItCounts();
        tokensAtFirst();
        tokensNotAboveBurst();
        tokensAsManyAsTheSize();
        tokensBecomeMoreAhead();
        tenInTheShaper();
        fullThoughOneCouldGo();
        notShapedGoesAtOnce();
        shapedFromNowOn();
        lifeOfTwelve();
        deliveredWithTheLastLife();
        lifeAheadOfDown();
        nothingFoundAheadOfLife();
        dropsOneByOne();
        placeByTheRouterThatDeals();
        portAtFirst();
        limitOfItsOwn();
        limitWithoutWhatIsSent();
        halfOfTheLimit();
        thirdSixthNinth();
        notThoseAboveTheLimit();
        notEarlyNotCounted();
        countedFromSetPort();
        smallestClassFirst();
        deficitJustTheSize();
        deficitOneLess();
        shareOnceInATurn();
        emptyClassLosesItsDeficit();
        behindThreeComesZero();
        greatestPacketInTurns();
        lettersAheadOfReckoning();
        packetsAheadOfFlows();
        linkByLink();
        thoseToBFirst();
        flowByFlow();
        portsBehindReckoning();
        rateJustTheSize();
        onePacketInATick();
        comesBehindTheDelay();
        downLosesAllOfTheLink();
        downLosesNothingElse();
        downJustAheadOfIt();
        lateByTheTickOfItsOffer();
        outOfOrderByNumber();
        c.end();
    }

    // at a router that has all addresses, so that each packet is delivered as it goes on; the time 1
    private static Switchyard atHome(int size) {
        Switchyard x = NetworkTest.withRouters(1);
        x.addNetwork(0, 0, 0);
        x.addFlow(0, 7, size, 0);
        x.step(1);
        return x;
    }

    // adds a flow of one packet from router 0, in the tick that comes
    private static int one(Switchyard x, int size, int ofClass) {
        int flow = x.addFlow(0, 9, size, ofClass);
        x.schedule(flow, x.time(), 1, 1);
        return flow;
    }

    // "From its start on it offers a packet": the start may be the time
    private static void fromItsStartOn() {
        Switchyard x = atHome(20);
        x.schedule(0, 1, 50, 60);
        c.same("5: not ahead of its start", x.offered(0), 0);
        x.step(1);
        c.same("5: in the tick of its start", x.offered(0), 1);
        Switchyard y = atHome(20);
        y.schedule(0, 2, 50, 60);
        y.step(1);
        c.same("5: not in the tick ahead of its start", y.offered(0), 0);
        y.step(1);
        c.same("5: in the tick of its start", y.offered(0), 1);
    }

    // "in each period-th tick"
    private static void inEachPeriodthTick() {
        for (int period : new int[] {1, 2, 49, 50}) {
            Switchyard x = atHome(20);
            x.schedule(0, 3, period, 3);
            for (int tick = 1; tick < 120; tick++) {
                int behind = tick < 3 ? 0 : Math.min(3, 1 + (tick - 3) / period);
                x.step(1);
                c.same("5: period " + period + " behind the tick " + tick, x.offered(0), behind);
            }
        }
    }

    // "as many as it counts, numbered from 0"
    private static void asManyAsItCounts() {
        for (int count : new int[] {1, 2, 59, 60}) {
            Switchyard x = atHome(20);
            c.same("13: the tick of the last one", x.schedule(0, 1, 1, count), count);
            x.step(Math.max(count - 1, 1));
            c.same("5: all but the last one", x.offered(0), Math.max(count - 1, 1));
            x.step(1);
            c.same("5: the last one", x.offered(0), count);
            x.step(60);
            c.same("5: none behind it", x.offered(0), count);
            c.same("5: all were delivered", x.delivered(0), count);
        }
    }

    // "it has tokens, at first as many as its burst"
    private static void tokensAtFirst() {
        Switchyard x = atHome(100);
        c.same("43: 0 if it is not shaped", x.tokens(0), 0);
        x.step(5);
        c.same("43: nor behind some ticks", x.tokens(0), 0);
        x.shape(0, 3, 100);
        c.same("5: the least burst", x.tokens(0), 100);
        x.shape(0, 3, 5000);
        c.same("14: the greatest one, from now on", x.tokens(0), 5000);
        x.shape(0, 3, 120);
        c.same("14: less than it has", x.tokens(0), 120);
    }

    // "in each tick they become more by its rate, but not above its burst"
    private static void tokensNotAboveBurst() {
        Switchyard x = atHome(100);
        x.shape(0, 40, 150);
        x.schedule(0, 1, 1, 1);
        x.step(1);
        c.same("5: one was full at first", x.tokens(0), 50);
        x.step(1);
        c.same("5: more by its rate", x.tokens(0), 90);
        x.step(1);
        c.same("5: once more", x.tokens(0), 130);
        x.step(1);
        c.same("5: not above its burst", x.tokens(0), 150);
        x.step(1);
        c.same("5: it stays", x.tokens(0), 150);
        x.shape(0, 500, 100);
        x.step(1);
        c.same("5: a rate above its burst", x.tokens(0), 100);
    }

    // "the first one goes on if there are as many tokens as its size, which are taken then"
    private static void tokensAsManyAsTheSize() {
        Switchyard x = atHome(100);
        x.shape(0, 1, 100);
        x.schedule(0, 1, 1, 2);
        x.step(1);
        c.same("5: just as many", x.delivered(0), 1);
        c.same("5: all are taken", x.tokens(0), 0);
        x.step(60);
        x.step(39);
        c.same("5: one less than the size", x.tokens(0), 99);
        c.same("5: it waits", x.shaping(0), 1);
        c.same("5: it does not go on", x.delivered(0), 1);
        x.step(1);
        c.same("5: just as many again", x.delivered(0), 2);
        c.same("5: they are taken", x.tokens(0), 0);
        c.same("5: none waits", x.shaping(0), 0);
    }

    // "Flow by flow: tokens; then, [..] offered [..]; then the packets of the shaper go on"
    private static void tokensBecomeMoreAhead() {
        Switchyard x = atHome(100);
        x.shape(0, 100, 100);
        x.schedule(0, 1, 1, 5);
        for (int i = 1; i <= 5; i++) {
            x.step(1);
            c.same("6: tokens of this tick count in it, " + i, x.delivered(0), i);
            c.same("6: they are taken, " + i, x.tokens(0), 0);
        }
    }

    // "Packets wait in its SHAPER, at most 10", "if [..] 10 packets wait in its shaper, it is dropped (0)"
    private static void tenInTheShaper() {
        Switchyard x = atHome(500);
        x.shape(0, 1, 500);
        x.schedule(0, 1, 1, 13);
        x.step(10);
        c.same("6: one went on, nine wait", x.shaping(0), 9);
        x.step(1);
        c.same("6: ten wait", x.shaping(0), 10);
        c.same("6: none is dropped", x.dropped(0, 0), 0);
        x.step(1);
        c.same("6: not more than ten", x.shaping(0), 10);
        c.same("6: that is dropped", x.dropped(0, 0), 1);
        c.same("41: it counts as offered", x.offered(0), 12);
        x.step(1);
        c.same("6: the next one, too", x.dropped(0, 0), 2);
        c.same("6: for no other reason", x.dropped(0, 1) + x.dropped(0, 4), 0);
    }

    // the same: it is dropped, though in the same tick there are tokens for the first one
    private static void fullThoughOneCouldGo() {
        Switchyard x = atHome(100);
        x.shape(0, 10, 100);
        x.schedule(0, 1, 1, 25);
        x.step(10);
        c.same("6: behind the tick 10 one went on", x.delivered(0), 1);
        c.same("6: tokens", x.tokens(0), 90);
        x.step(1);
        c.same("6: nine waited: the tenth goes in, then one goes on", x.shaping(0), 9);
        c.same("6: it went on", x.delivered(0), 2);
        x.step(9);
        c.same("6: ten wait", x.shaping(0), 10);
        c.same("6: eight were dropped", x.dropped(0, 0), 8);
        x.step(1);
        c.same("6: one could go, yet the new one is dropped", x.dropped(0, 0), 9);
        c.same("6: nine wait then", x.shaping(0), 9);
        c.same("6: three went on", x.delivered(0), 3);
    }

    // "A flow that is not shaped (at first) lets all of its packets go on at once."
    private static void notShapedGoesAtOnce() {
        Switchyard x = atHome(500);
        x.schedule(0, 1, 1, 60);
        x.step(60);
        c.same("5: all went on", x.delivered(0), 60);
        c.same("5: none waits", x.shaping(0), 0);
        c.same("5: without tokens", x.tokens(0), 0);
        c.same("46: in the tick in which they were offered", x.latest(0), 0);
    }

    // "Shapes a flow, from now on"
    private static void shapedFromNowOn() {
        Switchyard x = atHome(500);
        x.schedule(0, 1, 1, 60);
        x.step(5);
        c.same("14: none waits yet", x.shape(0, 1, 500), 0);
        x.step(2);
        c.same("14: one more went on", x.delivered(0), 6);
        c.same("14: the next one waits", x.shaping(0), 1);
        c.same("14: it tells how many wait", x.shape(0, 1, 999), 1);
        x.step(1);
        c.same("14: then the one that waited goes on", x.delivered(0), 7);
        c.same("14: the new one waits", x.shaping(0), 1);
        c.same("14: 999 less 500", x.tokens(0), 499);
    }

    // 0 and 1 send to each other, by two links, what neither of them has; a packet of the tick 1
    private static Switchyard pingPong() {
        Switchyard x = NetworkTest.withRouters(2);
        x.addLink(0, 1, 1, 200, 1);
        x.addLink(1, 0, 1, 200, 1);
        x.addStatic(0, 0, 0, 0);
        x.addStatic(1, 0, 0, 1);
        x.addFlow(0, 7, 20, 0);
        x.step(1);
        x.schedule(0, 1, 1, 1);
        return x;
    }

    // "A packet has a LIFE, 12 at first. [..] Otherwise its life becomes 1 less; if it is 0 then, it is dropped (2)."
    private static void lifeOfTwelve() {
        Switchyard x = pingPong();
        for (int dealt = 1; dealt <= 11; dealt++) {
            x.step(1);
            c.same("5: it goes on, " + dealt, x.onLink(0) + x.onLink(1), 1);
            c.same("5: by turns, " + dealt, x.onLink(0), dealt % 2);
        }
        c.same("5: its life is 1", x.dropped(0, 2), 0);
        x.step(1);
        c.same("5: its life is 0", x.dropped(0, 2), 1);
        c.same("5: it is gone", x.onLink(0) + x.onLink(1), 0);
    }

    // "LOCAL: it is DELIVERED. [..] Otherwise its life becomes 1 less"
    private static void deliveredWithTheLastLife() {
        Switchyard x = pingPong();
        x.step(10);
        x.addNetwork(1, 0, 0);
        x.step(1);
        c.same("5: it is on the link, with a life of 1", x.onLink(0), 1);
        x.step(1);
        c.same("5: it is delivered", x.delivered(0), 1);
        c.same("5: not dropped", x.dropped(0, 2), 0);
        c.same("46: late", x.latest(0), 11);
    }

    // "if it is 0 then, it is dropped (2). It goes to the port [..] If that link is DOWN, it is dropped (3)."
    private static void lifeAheadOfDown() {
        Switchyard x = pingPong();
        x.step(11);
        x.setUp(1, false);
        x.step(1);
        c.same("5: its life is over", x.dropped(0, 2), 1);
        c.same("5: that the link is DOWN does not count", x.dropped(0, 3), 0);
        Switchyard y = pingPong();
        y.step(9);
        y.setUp(1, false);
        y.step(1);
        c.same("5: with a life that is left", y.dropped(0, 2), 0);
        c.same("5: the link is DOWN", y.dropped(0, 3), 1);
    }

    // "Nothing found: it is dropped (reason 1). Otherwise its life becomes 1 less"
    private static void nothingFoundAheadOfLife() {
        Switchyard x = pingPong();
        x.step(10);
        x.dropStatic(1);
        x.step(2);
        c.same("5: nothing is found", x.dropped(0, 1), 1);
        c.same("5: its life does not count", x.dropped(0, 2), 0);
    }

    // one packet for each reason, and each under its own
    private static void dropsOneByOne() {
        Switchyard x = NetworkTest.pair(1, 1);
        x.addRouter();
        x.addFlow(2, 9, 20, 0);
        x.schedule(0, 1, 1, 1);
        x.setPort(0, false, 0, 50, false);
        one(x, 51, 0);
        x.step(1);
        c.same("5: nothing found", x.dropped(0, 1), 1);
        c.same("5: above the limit", x.dropped(1, 4), 1);
        for (int flow = 0; flow < 2; flow++) {
            int sum = 0;
            for (int reason = 0; reason < 7; reason++) {
                sum += x.dropped(flow, reason);
            }
            c.same("5: for one reason alone, flow " + flow, sum, 1);
        }
    }

    // "the place (the flow's number * 7 + the number of the router that deals with it) % (how many they are)"
    private static void placeByTheRouterThatDeals() {
        Switchyard x = NetworkTest.withRouters(3);
        x.addLink(0, 1, 1, 200, 3);
        for (int i = 0; i < 3; i++) {
            x.addLink(2, 1, 1, 200, 9);
        }
        x.addNetwork(2, 0, 0);
        x.addFlow(0, 9, 20, 0);
        x.addFlow(0, 9, 20, 0);
        x.step(60);
        x.schedule(0, 60, 1, 1);
        x.schedule(1, 60, 1, 1);
        x.step(5);
        // both came to 1; there are three links: (0 * 7 + 1) % 3 and (1 * 7 + 1) % 3
        c.same("5: that of flow 0 is on its second link", x.onLink(2), 1);
        c.same("5: that of flow 1 is on its third link", x.onLink(3), 1);
        c.same("5: none is on its first link", x.onLink(1), 0);
    }

    // "0 first come [..]; 0, at first", "a LIMIT in bytes ([..] 2000, at first)", "EARLY (not, at first)", "a weight for
    // each class (1 to 4; 1, at first)"
    private static void portAtFirst() {
        Switchyard x = NetworkTest.pair(1, 1);
        one(x, 500, 3);
        x.step(1);
        one(x, 100, 3);
        one(x, 200, 0);
        for (int i = 0; i < 3; i++) {
            one(x, 499, 1);
        }
        one(x, 203, 2);
        one(x, 20, 2);
        x.step(1);
        c.same("5: just 2000 may wait", x.waiting(0, false), 2000);
        c.same("5: one is above it", x.dropped(7, 4), 1);
        for (int flow = 0; flow < 8; flow++) {
            c.same("5: it is not EARLY", x.dropped(flow, 5), 0);
        }
        for (int i = 0; i < 10; i++) {
            x.step(50);
        }
        c.same("5: that which came first, not that of class 0", x.waiting(0, false), 1900);
        for (int ofClass = 0; ofClass < 4; ofClass++) {
            c.same("5: the weight at a", x.setWeight(0, false, ofClass, 1), 1);
            c.same("5: the weight at b", x.setWeight(0, true, ofClass, 1), 1);
        }
    }

    // "dropped, if the bytes that wait there and its own are together above the limit (4)": with none that waits
    private static void limitOfItsOwn() {
        Switchyard x = NetworkTest.pair(1, 1);
        x.setPort(0, false, 1, 50, false);
        int above = one(x, 51, 0);
        int just = one(x, 50, 0);
        x.step(1);
        c.same("5: 51 are above 50", x.dropped(above, 4), 1);
        c.same("5: 50 are not", x.dropped(just, 4), 0);
        c.same("5: it is sent", x.sending(0, false), 49);
    }

    // "What is being sent does not wait any more."
    private static void limitWithoutWhatIsSent() {
        Switchyard x = NetworkTest.pair(1, 1);
        x.setPort(0, false, 0, 5000, false);
        for (int i = 0; i < 11; i++) {
            x.addFlow(0, 9, 500, i % 4);
        }
        x.schedule(0, 1, 1, 1);
        x.step(1);
        for (int i = 1; i < 11; i++) {
            x.schedule(i, 2, 1, 1);
        }
        x.step(1);
        c.same("5: 5000 wait beside one that is sent", x.waiting(0, false), 5000);
        c.same("5: it is sent", x.sending(0, false), 498);
        int more = one(x, 20, 0);
        x.step(1);
        c.same("5: 20 more are above the limit", x.dropped(more, 4), 1);
    }

    // a packet is sent already, so that those of these sizes wait, each in a tick of its own; then some of 20 come
    private static Switchyard waiting(int limit, int first, int second) {
        Switchyard x = NetworkTest.pair(1, 1);
        x.setPort(0, false, 0, 5000, false);
        one(x, 500, 0);
        x.step(1);
        one(x, first, 0);
        one(x, second, 0);
        x.step(1);
        x.setPort(0, false, 0, limit, true);
        x.addFlow(0, 9, 20, 0);
        x.schedule(3, x.time(), 1, 60);
        return x;
    }

    // "twice the bytes that wait are the limit or more"
    private static void halfOfTheLimit() {
        Switchyard just = waiting(400, 100, 100);
        just.step(3);
        c.same("5: just half of the limit", just.dropped(3, 5), 1);
        Switchyard less = waiting(401, 100, 100);
        less.step(3);
        c.same("5: half a byte less does not count", less.dropped(3, 5), 0);
        less.step(1);
        c.same("5: but the next three do", less.dropped(3, 5), 1);
        Switchyard muchLess = waiting(400, 100, 60);
        muchLess.step(4);
        c.same("5: 160 and 180 do not count", muchLess.dropped(3, 5), 0);
        muchLess.step(1);
        c.same("5: 200, 220 and 240 do", muchLess.dropped(3, 5), 1);
    }

    // "this is the third such packet, the sixth, and so on (counted [..] with this one, [..])"
    private static void thirdSixthNinth() {
        Switchyard x = waiting(1000, 400, 100);
        int[] dropped = {0, 0, 1, 1, 1, 2, 2, 2, 3, 3, 3, 4};
        for (int i = 0; i < dropped.length; i++) {
            x.step(1);
            c.same("5: behind " + (i + 1), x.dropped(3, 5), dropped[i]);
            c.same("5: those that wait", x.waiting(0, false), 500 + 20 * (i + 1 - dropped[i]));
        }
    }

    // "without those dropped for the reason 4"
    private static void notThoseAboveTheLimit() {
        Switchyard x = waiting(200, 100, 60);
        x.step(3);
        c.same("5: two wait now", x.waiting(0, false), 200);
        c.same("5: the third one is above the limit", x.dropped(3, 4), 1);
        c.same("5: it is not dropped as EARLY", x.dropped(3, 5), 0);
        x.step(9);
        c.same("5: nor those behind it", x.dropped(3, 5), 0);
        c.same("5: all are above the limit", x.dropped(3, 4), 10);
        // the packet of 500 began in the tick 1: in the tick 501 the next one is taken, and 100 wait
        int later = x.addFlow(0, 9, 20, 0);
        x.schedule(later, 502, 1, 2);
        while (x.time() < 502) {
            x.step(1);
        }
        c.same("5: 100 less wait", x.waiting(0, false), 100);
        x.step(1);
        c.same("5: then comes the third one that counts", x.dropped(later, 5), 1);
        x.step(1);
        c.same("5: the fourth one waits", x.waiting(0, false), 120);
    }

    // "otherwise, if the port is EARLY"
    private static void notEarlyNotCounted() {
        Switchyard x = waiting(400, 100, 100);
        x.setPort(0, false, 0, 400, false);
        x.step(10);
        c.same("5: it is not EARLY", x.dropped(3, 5), 0);
        c.same("5: all ten wait", x.waiting(0, false), 400);
        Switchyard y = waiting(400, 100, 20);
        y.step(3);
        c.same("5: 120, 140, 160 do not count", y.dropped(3, 5), 0);
        y.step(3);
        c.same("5: 180 does not, 200 and 220 do", y.dropped(3, 5), 0);
        y.step(1);
        c.same("5: 240 is the third one", y.dropped(3, 5), 1);
    }

    // "counted from the latest setPort() of it on"
    private static void countedFromSetPort() {
        Switchyard x = waiting(1000, 400, 100);
        x.step(2);
        x.setPort(0, false, 0, 1000, true);
        x.step(2);
        c.same("5: counted anew", x.dropped(3, 5), 0);
        x.setPort(0, true, 0, 1000, true);
        x.setWeight(0, false, 0, 2);
        x.step(1);
        c.same("5: that of another port does not count", x.dropped(3, 5), 1);
    }

    // "with 1 the first one of the smallest class that has any"
    private static void smallestClassFirst() {
        Switchyard x = NetworkTest.pair(200, 1);
        x.setPort(0, false, 1, 5000, false);
        int[] classes = {3, 2, 3, 1, 2, 0, 1, 0};
        for (int i = 0; i < classes.length; i++) {
            one(x, 100 + i, classes[i]);
        }
        int[] gone = {5, 7, 3, 6, 1, 4, 0, 2};
        int left = 8 * 100 + 28;
        for (int i = 0; i < gone.length; i++) {
            x.step(1);
            left -= 100 + gone[i];
            c.same("5: the packet " + gone[i], x.waiting(0, false), left);
        }
    }

    private static Switchyard inTurns() {
        Switchyard x = NetworkTest.pair(200, 1);
        x.setPort(0, false, 2, 5000, false);
        return x;
    }

    private static void queues(Switchyard x, String what, int... due) {
        x.step(1);
        for (int ofClass = 0; ofClass < 4; ofClass++) {
            c.same("5: " + what + ", those of class " + ofClass, x.queued(0, false, ofClass), due[ofClass]);
            c.same("5: " + what + ", deficit of class " + ofClass, x.deficit(0, false, ofClass), due[4 + ofClass]);
        }
    }

    // "if the deficit is not less than the size of the first packet of the class, that is taken"
    private static void deficitJustTheSize() {
        Switchyard x = inTurns();
        one(x, 100, 0);
        one(x, 20, 1);
        queues(x, "just the size", 0, 1, 0, 0, 0, 0, 0, 0);
        queues(x, "then the next class", 0, 0, 0, 0, 0, 80, 0, 0);
    }

    // the same, with 1 less; "otherwise the turn goes on to the next class"
    private static void deficitOneLess() {
        Switchyard x = inTurns();
        one(x, 101, 0);
        one(x, 20, 1);
        queues(x, "one less", 1, 0, 0, 0, 100, 80, 0, 0);
        queues(x, "in its next turn", 0, 0, 0, 0, 99, 0, 0, 0);
    }

    // "if the class has not got its share in this turn, its deficit is more by 100 * its weight", "(A class has its
    // share until the turn goes on.)"
    private static void shareOnceInATurn() {
        Switchyard x = inTurns();
        x.setWeight(0, false, 0, 4);
        for (int i = 0; i < 5; i++) {
            one(x, 130, 0);
        }
        one(x, 100, 3);
        queues(x, "400 less 130", 4, 0, 0, 1, 270, 0, 0, 0);
        queues(x, "no new share", 3, 0, 0, 1, 140, 0, 0, 0);
        queues(x, "no new share", 2, 0, 0, 1, 10, 0, 0, 0);
        queues(x, "the turn goes on", 2, 0, 0, 0, 10, 0, 0, 0);
        queues(x, "a new share", 1, 0, 0, 0, 280, 0, 0, 0);
        queues(x, "no new share", 0, 0, 0, 0, 150, 0, 0, 0);
    }

    // "if none of the class of the turn waits, its deficit becomes 0, and the turn goes on"
    private static void emptyClassLosesItsDeficit() {
        Switchyard x = inTurns();
        one(x, 60, 1);
        queues(x, "40 are left", 0, 0, 0, 0, 0, 40, 0, 0);
        queues(x, "none waits at all, so nothing is taken", 0, 0, 0, 0, 0, 40, 0, 0);
        one(x, 60, 2);
        queues(x, "none of class 1 waits", 0, 0, 0, 0, 0, 0, 40, 0);
        one(x, 60, 0);
        queues(x, "over 2 and 3 to 0", 0, 0, 0, 0, 40, 0, 0, 0);
    }

    // "the turn goes on to the next class (behind 3 to 0)"
    private static void behindThreeComesZero() {
        Switchyard x = inTurns();
        one(x, 60, 3);
        one(x, 70, 3);
        queues(x, "over 0 to 2", 0, 0, 0, 1, 0, 0, 0, 40);
        one(x, 80, 0);
        one(x, 90, 1);
        queues(x, "70 are more than 40, so 0 comes", 0, 1, 0, 1, 20, 0, 0, 40);
        queues(x, "none of 0 waits, so 1 comes", 0, 0, 0, 1, 0, 10, 0, 40);
        queues(x, "then 3 again", 0, 0, 0, 0, 0, 0, 0, 70);
    }

    // the greatest packet, with the least weight: five shares, in one tick
    private static void greatestPacketInTurns() {
        Switchyard x = inTurns();
        one(x, 500, 3);
        queues(x, "five shares", 0, 0, 0, 0, 0, 0, 0, 0);
        c.same("5: it is sent", x.sending(0, false), 300);
        Switchyard y = inTurns();
        for (int ofClass = 0; ofClass < 4; ofClass++) {
            one(y, 500 - ofClass, ofClass);
        }
        queues(y, "each gets four, and 0 the fifth", 0, 1, 1, 1, 0, 400, 400, 400);
    }

    // "1. Letters that come in it", "4. Each router reckons its ways and its table anew."
    private static void lettersAheadOfReckoning() {
        Switchyard x = NetworkTest.withRouters(2);
        x.addLink(0, 1, 1, 1, 2);
        x.addNetwork(1, 0, 0);
        x.step(2);
        c.same("6: not in the tick 1", x.found(0, 9), -1);
        x.step(1);
        c.same("6: in the tick 2, in which it comes", x.found(0, 9), 0);
    }

    // "2. Packets that come in it from links", "3. Flow by flow"
    private static void packetsAheadOfFlows() {
        Switchyard x = NetworkTest.withRouters(3);
        x.addLink(0, 1, 1, 200, 1);
        x.addLink(1, 2, 1, 10, 1);
        x.addStatic(0, 0, 0, 0);
        x.addStatic(1, 0, 0, 1);
        x.addFlow(1, 9, 40, 0);
        x.addFlow(0, 9, 30, 0);
        x.step(1);
        x.schedule(1, 1, 1, 1);
        x.schedule(0, 2, 1, 1);
        x.step(2);
        c.same("6: that from the link is sent", x.sending(1, false), 20);
        c.same("6: that of the flow waits", x.waiting(1, false), 40);
    }

    // two links from 0 to 1 by which two packets come in the same tick
    private static void linkByLink() {
        for (int late = 0; late < 2; late++) {
            Switchyard x = NetworkTest.withRouters(3);
            x.addLink(0, 1, 1, 200, 4);
            x.addLink(0, 1, 1, 200, 4);
            x.addLink(1, 2, 1, 10, 1);
            x.addStatic(0, 0, 1, late);
            x.addStatic(0, 32768, 1, 1 - late);
            x.addStatic(1, 0, 0, 2);
            x.addFlow(0, 7, 30, 0);
            x.addFlow(0, 40000, 40, 0);
            x.step(1);
            x.schedule(0, 1, 1, 1);
            x.schedule(1, 1, 1, 1);
            x.step(5);
            c.same("6: that of the link 0 goes first", x.waiting(2, false), late == 0 ? 40 : 30);
        }
    }

    // "on each first those to b, then those to a": on the link 0 the packet 0 goes one way, the packet 1 the other one,
    // and both ends have their address by then
    private static void thoseToBFirst() {
        for (int end = 0; end < 2; end++) {
            Switchyard x = NetworkTest.withRouters(3);
            x.addLink(1 + end, 2 - end, 1, 200, 5);
            x.addLink(0, 1, 1, 200, 2);
            x.addLink(0, 2, 1, 200, 1);
            x.addStatic(0, 0, 0, 1);
            x.addStatic(1, 0, 0, 0);
            x.addStatic(2, 0, 0, 0);
            x.addStatic(0, 0, 0, 2);
            x.addFlow(0, 9, 20, 0);
            x.step(1);
            x.schedule(0, 1, 1, 2);
            x.dropStatic(0);
            x.step(2);
            c.same("6: one by way of 1", x.onLink(1), 1);
            c.same("6: one by way of 2", x.onLink(2), 1);
            x.step(1);
            c.same("6: both on the link 0", x.onLink(0), 2);
            x.addNetwork(1, 0, 0);
            x.addNetwork(2, 0, 0);
            x.step(4);
            c.same("6: they did not come yet", x.delivered(0), 0);
            x.step(1);
            c.same("6: both are delivered in one tick", x.delivered(0), 2);
            // the packet 0 goes from 1 to 2: if 2 is b, it comes first
            c.same("6: those to b first, end " + end, x.outOfOrder(0), end);
        }
    }

    // "3. Flow by flow"
    private static void flowByFlow() {
        Switchyard x = NetworkTest.pair(10, 1);
        x.addFlow(0, 9, 30, 3);
        x.addFlow(0, 9, 40, 2);
        x.addFlow(0, 9, 50, 1);
        x.schedule(2, 1, 1, 1);
        x.schedule(1, 1, 1, 1);
        x.schedule(0, 1, 1, 1);
        x.step(1);
        c.same("6: flow 0 comes first", x.sending(0, false), 20);
        x.step(3);
        c.same("6: then flow 1", x.sending(0, false), 30);
        x.step(4);
        c.same("6: then flow 2", x.sending(0, false), 40);
    }

    // "3. Flow by flow [..] 4. Each router reckons [..] 5. Port by port": a packet that comes in a tick is sent in it
    private static void portsBehindReckoning() {
        Switchyard x = NetworkTest.withRouters(2);
        x.addLink(0, 1, 1, 10, 1);
        x.addStatic(0, 0, 0, 0);
        x.addFlow(0, 9, 30, 0);
        x.schedule(0, 0, 1, 2);
        x.step(1);
        c.same("6: in the tick 0 there was no table yet", x.dropped(0, 1), 1);
        x.step(1);
        c.same("6: in the tick 1 it is sent at once", x.sending(0, false), 20);
        c.same("6: it does not wait", x.waiting(0, false), 0);
    }

    // "it sends as many bytes of it as the rate tells, or what is left of it; if that is all of it, the packet goes
    // onto the link"
    private static void rateJustTheSize() {
        int[][] rows = {
            // rate, size, ticks that it takes, what is left ahead of the last one
            {200, 200, 1, 0}, {200, 201, 2, 1}, {200, 199, 1, 0}, {1, 20, 20, 1}, {200, 500, 3, 100}, {100, 500, 5, 100},
        };
        for (int[] row : rows) {
            Switchyard x = NetworkTest.pair(row[0], 1);
            one(x, row[1], 0);
            for (int i = 1; i < row[2]; i++) {
                x.step(1);
                c.same("6: what is left of " + row[1], x.sending(0, false), row[1] - i * row[0]);
                c.same("6: not on the link", x.onLink(0), 0);
            }
            c.same("6: the last bytes of " + row[1], x.sending(0, false), row[3]);
            x.step(1);
            c.same("6: nothing is left", x.sending(0, false), 0);
            c.same("6: on the link", x.onLink(0), 1);
            x.step(1);
            c.same("6: it came", x.delivered(0), 1);
        }
    }

    // "the port sends nothing then": what the rate has left in a tick is not used for the next packet
    private static void onePacketInATick() {
        Switchyard x = NetworkTest.pair(200, 20);
        for (int i = 0; i < 3; i++) {
            one(x, 20, 0);
        }
        one(x, 300, 0);
        for (int i = 1; i <= 3; i++) {
            x.step(1);
            c.same("6: one more on the link", x.onLink(0), i);
            c.same("6: nothing is sent behind it", x.sending(0, false), 0);
        }
        x.step(1);
        c.same("6: the great one begins", x.sending(0, false), 100);
        one(x, 20, 0);
        x.step(1);
        c.same("6: its last bytes alone", x.waiting(0, false), 20);
        c.same("6: it is on the link", x.onLink(0), 4);
    }

    // "and comes in the tick t + delay"
    private static void comesBehindTheDelay() {
        for (int delay : new int[] {1, 2, 19, 20}) {
            Switchyard x = NetworkTest.pair(200, delay);
            one(x, 20, 0);
            x.step(delay);
            c.same("6: on the link, delay " + delay, x.onLink(0), 1);
            c.same("6: not yet, delay " + delay, x.delivered(0), 0);
            x.step(1);
            c.same("6: it came, delay " + delay, x.delivered(0), 1);
            c.same("6: none on the link, delay " + delay, x.onLink(0), 0);
            c.same("46: late by the delay " + delay, x.latest(0), delay);
        }
    }

    // "all packets that wait at its two ports, are sent by them, or are on it, are dropped (6)"
    private static void downLosesAllOfTheLink() {
        Switchyard x = NetworkTest.withRouters(2);
        x.addLink(0, 1, 1, 50, 20);
        x.addStatic(0, 32768, 1, 0);
        x.addStatic(1, 0, 1, 0);
        x.addFlow(0, 40000, 75, 0);
        x.addFlow(1, 9, 75, 0);
        x.step(1);
        x.schedule(0, 1, 1, 5);
        x.schedule(1, 1, 1, 5);
        x.step(5);
        for (int end = 0; end < 2; end++) {
            c.same("6: two wait, end " + end, x.waiting(0, end == 1), 150);
            c.same("6: one is sent, end " + end, x.sending(0, end == 1), 25);
        }
        c.same("6: two each way are on it", x.onLink(0), 4);
        x.setUp(0, false);
        for (int end = 0; end < 2; end++) {
            c.same("6: all five are dropped, flow " + end, x.dropped(end, 6), 5);
            c.same("6: none waits, end " + end, x.waiting(0, end == 1), 0);
            c.same("6: none is queued, end " + end, x.queued(0, end == 1, 0), 0);
            c.same("6: none is sent, end " + end, x.sending(0, end == 1), 0);
        }
        c.same("6: none is on it", x.onLink(0), 0);
        x.setUp(0, false);
        c.same("6: DOWN once more drops none", x.dropped(0, 6) + x.dropped(1, 6), 10);
    }

    // the same: not those of other links, nor those that wait in shapers; what setPort() told stays
    private static void downLosesNothingElse() {
        Switchyard x = NetworkTest.withRouters(2);
        x.addLink(0, 1, 1, 50, 5);
        x.addLink(0, 1, 1, 50, 5);
        x.addNetwork(1, 0, 0);
        x.addStatic(0, 0, 0, 0);
        x.addStatic(0, 0, 0, 1);
        x.setPort(1, false, 1, 80, false);
        x.setWeight(1, false, 2, 3);
        x.addFlow(0, 9, 75, 0);
        x.addFlow(0, 9, 100, 0);
        x.shape(1, 1, 100);
        x.step(1);
        x.schedule(0, 1, 1, 2);
        x.schedule(1, 1, 1, 3);
        x.step(3);
        c.same("6: two wait in the shaper", x.shaping(1), 2);
        x.setUp(1, false);
        c.same("6: none is dropped", x.dropped(0, 6) + x.dropped(1, 6), 0);
        x.setUp(1, true);
        x.step(12);
        c.same("6: all of the link 0 came", x.delivered(0) + x.delivered(1), 3);
        c.same("6: they wait still", x.shaping(1), 2);
        x.setUp(0, false);
        x.step(1);
        one(x, 81, 0);
        one(x, 80, 0);
        x.step(1);
        c.same("10: the limit of 80 is as it was", x.dropped(2, 4) + x.dropped(3, 4), 1);
        c.same("11: the weight is as it was", x.setWeight(1, false, 2, 1), 3);
    }

    // a packet that comes in the tick t is lost, if the link goes DOWN at the time t, and is not, at the time t + 1
    private static void downJustAheadOfIt() {
        Switchyard x = NetworkTest.pair(200, 4);
        one(x, 20, 0);
        x.step(4);
        x.setUp(0, false);
        c.same("6: just ahead of it", x.dropped(0, 6), 1);
        x.step(1);
        c.same("6: it does not come", x.delivered(0), 0);
        Switchyard y = NetworkTest.pair(200, 4);
        one(y, 20, 0);
        y.step(5);
        y.setUp(0, false);
        c.same("6: just behind it", y.dropped(0, 6), 0);
        c.same("6: it came", y.delivered(0), 1);
    }

    // "A packet that is DELIVERED in the tick t is LATE by t less the tick in which it was offered."
    private static void lateByTheTickOfItsOffer() {
        Switchyard x = atHome(100);
        x.shape(0, 10, 100);
        x.schedule(0, 1, 3, 3);
        c.same("46: none was DELIVERED", x.latest(0), -1);
        c.same("47: without any", x.meanLate(0), 0.0);
        x.step(1);
        c.same("46: at once", x.latest(0), 0);
        x.step(10);
        // the second one was offered in the tick 4, and goes on in the tick 11; the third one in 7, and 21
        c.same("46: with the time in the shaper", x.latest(0), 7);
        c.same("47: in the mean", x.meanLate(0), 3.5);
        x.step(10);
        c.same("46: the third one", x.latest(0), 14);
        c.same("47: in the mean", x.meanLate(0), 7.0);
    }

    // "It is OUT OF ORDER, if one of its flow with a greater number was delivered ahead of it."
    private static void outOfOrderByNumber() {
        Switchyard x = NetworkTest.withRouters(2);
        x.addLink(0, 1, 1, 200, 3);
        x.addLink(0, 1, 1, 200, 1);
        x.addNetwork(1, 0, 0);
        x.addStatic(0, 0, 0, 0);
        x.addFlow(0, 9, 20, 0);
        x.addFlow(0, 9, 20, 0);
        x.step(1);
        x.schedule(0, 1, 1, 3);
        x.schedule(1, 1, 1, 1);
        x.addStatic(0, 0, 0, 1);
        x.step(1);
        x.dropStatic(0);
        x.step(1);
        // the packets 0 and 1 go by the slow link, 2 by the fast one, in the tick 3; it comes in 4, as 0 does, 1 in 6
        c.same("48: two are on the slow link", x.onLink(0), 2);
        x.step(2);
        c.same("44: those of the tick 4", x.delivered(0), 2);
        c.same("48: 0 came by the link 0, ahead of 2", x.outOfOrder(0), 0);
        x.step(2);
        c.same("44: that of the tick 6", x.delivered(0), 3);
        c.same("48: 1 came behind 2", x.outOfOrder(0), 1);
        c.same("44: that of flow 1, in the same queue", x.delivered(1), 1);
        c.same("48: others of another flow do not count", x.outOfOrder(1), 0);
    }
}
