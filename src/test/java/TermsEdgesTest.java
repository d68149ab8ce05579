// The edges that the sections 1 to 4 name: of prefixes, of letters, of ways, of tables and tries. Ahead of each test
// stands the sentence that it is for.
public final class TermsEdgesTest {
    private static final Check c = new Check("TermsEdgesTest");

    public static void main(String[] args) {
        highestBitFirst();
        prefixOfNothingFitsAll();
        prefixOfAllFitsOne();
        asManyBitsAsItsLength();
        timeAtFirst();
        linkBetweenTwo();
        letterZero();
        letterForEachChange();
        noLetterOtherwise();
        alongLinksThatAreUp();
        keptAboveZero();
        othersOwnAsKept();
        addingIsComingUp();
        staysAsWritten();
        comesInTheTickOfItsDelay();
        lostWithItsLink();
        greaterNumberOnly();
        notBackByThatLink();
        backByTheOtherLink();
        asTheyWereSent();
        linkByLink();
        lettersOfBoth();
        costOfTheOneFrom();
        leastSum();
        longestWay();
        mostFirstLinks();
        localStaticLearned();
        smallestStaticThatIsUp();
        learnedWithADistance();
        nearestThenSmallest();
        reckonedInTicksOnly();
        newRouter();
        newRouterLater();
        trieOfNothing();
        trieOfLengthZero();
        trieOfOneAddress();
        trieOfTheLastBit();
        trieOfTheFirstBit();
        trieBelowAnEntry();
        looksAtOneThatDoesNotFit();
        looksAtWholeAddress();
        foundAreEntriesOnly();
        c.end();
    }

    private static Switchyard oneRouter(int... addressesAndLengths) {
        Switchyard x = NetworkTest.withRouters(1);
        for (int i = 0; i < addressesAndLengths.length; i += 2) {
            x.addNetwork(0, addressesAndLengths[i], addressesAndLengths[i + 1]);
        }
        x.step(1);
        return x;
    }

    // "ADDRESSES are 0 to 65535, of 16 bits, the highest one first."
    private static void highestBitFirst() {
        Switchyard x = oneRouter(32768, 1);
        c.same("1: the highest bit is the first one", x.found(0, 32768), 1);
        c.same("1: the last address has it, too", x.found(0, 65535), 1);
        c.same("1: the address below has it not", x.found(0, 32767), -1);
        c.same("1: nor has the first one", x.found(0, 0), -1);
    }

    // "a length, 0 to 16": the least one
    private static void prefixOfNothingFitsAll() {
        Switchyard x = oneRouter(0, 0);
        c.same("1: the length 0 fits the first address", x.found(0, 0), 0);
        c.same("1: the length 0 fits the last address", x.found(0, 65535), 0);
    }

    // "a length, 0 to 16": the greatest one
    private static void prefixOfAllFitsOne() {
        Switchyard x = oneRouter(0, 16, 4660, 16, 65535, 16);
        c.same("1: the length 16 fits its address", x.found(0, 4660), 16);
        c.same("1: not the one below", x.found(0, 4659), -1);
        c.same("1: not the one above", x.found(0, 4661), -1);
        c.same("1: the first address", x.found(0, 0), 16);
        c.same("1: not the one above the first", x.found(0, 1), -1);
        c.same("1: the last address", x.found(0, 65535), 16);
        c.same("1: not the one below the last", x.found(0, 65534), -1);
    }

    // "it fits an address, if the first bits of both, as many as its length, are the same."
    private static void asManyBitsAsItsLength() {
        int all = 0xB5C7;
        for (int length = 1; length <= 16; length++) {
            int last = 1 << 16 - length;
            int address = all & -last;
            Switchyard x = oneRouter(address, length);
            c.same("1: its last bit counts, length " + length, x.found(0, address ^ last), -1);
            c.same("1: its first bit counts, length " + length, x.found(0, address ^ 32768), -1);
            c.same("1: it fits its address, length " + length, x.found(0, address), length);
            c.same("1: it fits up to the last one, length " + length, x.found(0, address | last - 1), length);
        }
    }

    // "TIME is 0 at first; a tick with the number t is what leads from the time t to t + 1."
    private static void timeAtFirst() {
        Switchyard x = NetworkTest.withRouters(1);
        c.same("2: the time at first", x.time(), 0);
        x.addFlow(0, 0, 20, 0);
        x.schedule(0, 0, 1, 1);
        c.same("2: the tick 0 was not yet", x.offered(0), 0);
        c.same("2: the tick 0 leads to the time 1", x.step(1), 1);
        c.same("2: that was the tick 0", x.offered(0), 1);
    }

    // "its a and its b", "one at a, from which it goes to b, and one at b"
    private static void linkBetweenTwo() {
        Switchyard x = NetworkTest.withRouters(2);
        x.addLink(1, 0, 1, 10, 1);
        x.addStatic(1, 0, 0, 0);
        x.addNetwork(0, 0, 0);
        x.addFlow(1, 0, 20, 0);
        x.step(1);
        x.schedule(0, 1, 1, 2);
        x.step(2);
        c.same("2: the port at a sends to b", x.waiting(0, false) + x.sending(0, false), 20);
        c.same("2: the port at b has nothing", x.waiting(0, true) + x.sending(0, true), 0);
        x.step(1);
        c.same("2: it comes to b", x.delivered(0), 1);
    }

    // "with a number (0, ahead of all, with nothing in it)"
    private static void letterZero() {
        Switchyard x = NetworkTest.withRouters(8);
        for (int router = 0; router < 8; router++) {
            for (int of = 0; of < 8; of++) {
                c.same("3: ahead of all", x.letterOf(router, of), 0);
            }
        }
        x.step(1);
        c.same("3: nothing in it", x.entries(7) + x.firstLinks(7, 6), 0);
    }

    // "Whenever one of its links goes UP or DOWN, or gets another cost, whenever it gets a link or network, or loses a
    // network, a router writes its own letter anew, with a number greater by 1"
    private static void letterForEachChange() {
        Switchyard x = NetworkTest.withRouters(3);
        x.addLink(0, 1, 1, 1, 1);
        wrote(x, "3: it gets a link", 1, 1);
        x.setCost(0, 2);
        wrote(x, "3: another cost", 2, 2);
        x.setUp(0, false);
        wrote(x, "3: a link goes DOWN", 3, 3);
        x.setUp(0, true);
        wrote(x, "3: a link goes UP", 4, 4);
        x.addNetwork(0, 0, 0);
        wrote(x, "3: it gets a network", 5, 4);
        x.dropNetwork(0);
        wrote(x, "3: it loses a network", 6, 4);
        x.addLink(2, 1, 1, 1, 1);
        wrote(x, "3: 1 gets another link", 6, 5);
        c.same("3: 2, too", x.letterOf(2, 2), 1);
    }

    private static void wrote(Switchyard x, String what, int first, int second) {
        c.same(what + ", 0", x.letterOf(0, 0), first);
        c.same(what + ", 1", x.letterOf(1, 1), second);
    }

    // "If it is another one than before, and the link is UP, a writes its letter, then b does; otherwise nobody
    // writes."; and what section 3 does not name
    private static void noLetterOtherwise() {
        Switchyard x = NetworkTest.withRouters(2);
        x.addLink(0, 1, 5, 1, 1);
        x.step(2);
        x.setCost(0, 5);
        x.setUp(0, true);
        x.addRouter();
        x.addStatic(0, 0, 0, 0);
        x.dropStatic(0);
        x.setPort(0, false, 1, 50, true);
        x.setWeight(0, true, 1, 2);
        x.addFlow(0, 0, 20, 0);
        x.schedule(0, 2, 1, 1);
        x.shape(0, 1, 20);
        x.settledIn(60);
        x.deliveredIn(0, 60);
        x.step(3);
        wrote(x, "3: nobody writes", 1, 1);
        x.setUp(0, false);
        x.setCost(0, 6);
        x.setUp(0, false);
        wrote(x, "4: nobody writes, while it is DOWN", 2, 2);
        c.same("3: no letter is on its way", x.letters(), 0);
    }

    // "sends it along all of its links that are UP"
    private static void alongLinksThatAreUp() {
        Switchyard x = NetworkTest.withRouters(4);
        for (int to = 1; to < 4; to++) {
            x.addLink(0, to, 1, 1, 1);
        }
        x.addLink(1, 2, 1, 1, 1);
        x.setUp(1, false);
        x.step(9);
        x.addNetwork(0, 0, 0);
        c.same("3: along two of three", x.letters(), 2);
        x.setUp(0, false);
        x.setUp(2, false);
        c.same("3: 1 tells 2", x.letters(), 1);
        x.addNetwork(0, 0, 1);
        c.same("3: along none", x.letters(), 1);
    }

    // "then a sends along it the letters of all routers but itself that it keeps with numbers above 0"
    private static void keptAboveZero() {
        Switchyard x = NetworkTest.withRouters(3);
        x.addLink(0, 1, 1, 1, 1);
        c.same("3: those with the number 0 are not sent", x.letters(), 2);
        Switchyard y = NetworkTest.withRouters(3);
        y.addLink(0, 1, 1, 1, 1);
        y.step(2);
        y.addLink(1, 2, 1, 1, 1);
        // 1 along both, 2 along the new one, then 1 that of 0
        c.same("3: that with the number 1 is", y.letters(), 2 + 1 + 1);
        y.step(2);
        c.same("3: it came", y.letterOf(2, 0), 1);
    }

    // "(that of b, as it keeps it, too)": it comes back to b, who throws it away
    private static void othersOwnAsKept() {
        Switchyard x = NetworkTest.withRouters(2);
        x.addLink(0, 1, 1, 1, 3);
        x.step(4);
        x.setUp(0, false);
        x.setUp(0, true);
        c.same("3: both write, and send that of each other", x.letters(), 4);
        x.step(4);
        wrote(x, "3: its own one stays", 3, 3);
        c.same("3: the new ones came", x.letterOf(0, 1) + x.letterOf(1, 0), 6);
        c.same("3: the old ones are thrown away", x.letters(), 0);
    }

    // "(Adding a link is the same as its coming UP.)"
    private static void addingIsComingUp() {
        Switchyard x = NetworkTest.withRouters(4);
        x.addLink(0, 2, 1, 1, 1);
        x.addLink(1, 3, 1, 1, 1);
        x.step(2);
        x.addLink(0, 1, 1, 1, 9);
        // each of 0 and 1 along its two links, then 0 that of 2, and 1 that of 3
        c.same("3: as it is added", x.letters(), 4 + 2);
        x.setUp(2, false);
        x.step(2);
        c.same("3: all came or are lost", x.letters(), 0);
        x.setUp(2, true);
        c.same("3: as it comes UP", x.letters(), 4 + 2);
    }

    // "A letter stays as it was written, whatever changes later."
    private static void staysAsWritten() {
        Switchyard x = NetworkTest.withRouters(3);
        x.addLink(0, 1, 1, 1, 5);
        x.addLink(0, 2, 1, 1, 1);
        x.addNetwork(0, 0, 1);
        x.step(2);
        x.dropNetwork(0);
        x.addNetwork(0, 32768, 1);
        x.step(4);
        c.same("3: the network of then", x.found(1, 0), 1);
        c.same("3: not that of now", x.found(1, 65535), -1);
        x.step(2);
        c.same("3: two ticks later not that of then", x.found(1, 0), -1);
        c.same("3: but that of now", x.found(1, 65535), 1);
    }

    // "A letter that is sent in the tick t, or ahead of it at the time t, along a link with the delay d comes in the
    // tick t + d"
    private static void comesInTheTickOfItsDelay() {
        for (int delay : new int[] {1, 2, 19, 20}) {
            Switchyard x = NetworkTest.withRouters(3);
            x.addLink(0, 1, 1, 1, delay);
            x.addLink(1, 2, 1, 1, delay);
            x.step(delay);
            c.same("3: not ahead of the tick " + delay, x.letterOf(1, 0), 0);
            x.step(1);
            c.same("3: in the tick " + delay, x.letterOf(1, 0), 1);
            c.same("3: sent on in it", x.letterOf(2, 0), 0);
            for (int i = 1; i < delay; i++) {
                x.step(1);
                c.same("3: not ahead of the tick " + 2 * delay, x.letterOf(2, 0), 0);
            }
            x.step(1);
            c.same("3: in the tick " + 2 * delay, x.letterOf(2, 0), 1);
        }
    }

    // "if the link does not go DOWN ahead of that", "its letters are lost"
    private static void lostWithItsLink() {
        for (int ticks = 5; ticks <= 6; ticks++) {
            Switchyard x = NetworkTest.withRouters(3);
            x.addLink(0, 1, 1, 1, 5);
            x.addLink(0, 2, 1, 1, 20);
            x.step(ticks);
            x.setUp(0, false);
            // on the link 1: at first two, of each one, and one of 0 as the link 0 goes DOWN; behind the tick 5 that of 1
            c.same("3: those on the link 0 are lost at " + ticks, x.letters(), 3 + (ticks - 5));
            x.step(6);
            c.same("3: both came in the tick 5, if they were not lost", x.letterOf(1, 0), ticks == 5 ? 0 : 2);
        }
    }

    // "A router that gets a letter with a greater number than the one that it keeps of that router keeps it [..] other
    // letters it throws away."
    private static void greaterNumberOnly() {
        Switchyard x = NetworkTest.withRouters(3);
        x.addLink(0, 1, 1, 1, 1);
        x.addLink(1, 2, 1, 1, 1);
        x.addLink(0, 2, 1, 1, 1);
        x.step(9);
        x.addNetwork(0, 0, 0);
        c.same("3: to 1 and to 2", x.letters(), 2);
        x.step(1);
        c.same("3: they did not come yet", x.letterOf(1, 0) + x.letterOf(2, 0), 4);
        x.step(1);
        c.same("3: both keep it", x.letterOf(1, 0) + x.letterOf(2, 0), 6);
        c.same("3: both send it on to each other", x.letters(), 2);
        x.step(1);
        c.same("3: the same number is thrown away", x.letters(), 0);
    }

    // "sends it along all of its links that are UP, by numbers, but the one by which it came"
    private static void notBackByThatLink() {
        Switchyard x = NetworkTest.withRouters(4);
        x.addLink(1, 0, 1, 1, 1);
        x.addLink(1, 2, 1, 1, 1);
        x.addLink(3, 1, 1, 1, 1);
        x.step(9);
        x.setUp(1, false);
        x.step(3);
        x.addNetwork(0, 0, 0);
        x.step(2);
        c.same("3: along the link 2 alone", x.letters(), 1);
        x.step(1);
        c.same("3: 3 has no other link", x.letters(), 0);
        c.same("3: 3 keeps it", x.letterOf(3, 0), 2);
        c.same("3: 2 does not", x.letterOf(2, 0), 1);
    }

    // the same, with two links between the same routers: it goes back by the other one
    private static void backByTheOtherLink() {
        Switchyard x = NetworkTest.withRouters(2);
        x.addLink(0, 1, 1, 1, 1);
        x.addLink(0, 1, 1, 1, 4);
        x.step(20);
        x.addNetwork(0, 0, 0);
        c.same("3: along both", x.letters(), 2);
        x.step(2);
        c.same("3: one came, and is sent on along the link 1", x.letters(), 2);
        x.step(2);
        c.same("3: the slow one did not come yet", x.letters(), 2);
        x.step(1);
        c.same("3: it came, and is thrown away", x.letters(), 1);
        x.step(1);
        c.same("3: the router itself throws it away", x.letters(), 0);
        c.same("3: its own number stays", x.letterOf(0, 0), 3);
    }

    // "as they were sent": two letters of one router come in the same tick, the older one first
    private static void asTheyWereSent() {
        Switchyard x = NetworkTest.withRouters(3);
        x.addLink(0, 1, 1, 1, 3);
        x.addLink(1, 2, 1, 1, 5);
        x.step(20);
        x.addNetwork(0, 0, 1);
        x.addNetwork(0, 32768, 1);
        x.step(4);
        c.same("6: 1 keeps the newer one", x.letterOf(1, 0), 3);
        c.same("6: and sent both on, each as it came", x.letters(), 2);
        x.step(5);
        c.same("6: 2 keeps the newer one", x.letterOf(2, 0), 3);
    }

    // "link by link": a letter comes to 3 by two links in the same tick, and goes on by the one with the greater number
    private static void linkByLink() {
        for (int fast = 0; fast < 2; fast++) {
            Switchyard x = NetworkTest.withRouters(4);
            x.addLink(0, 1, 1, 1, fast == 0 ? 4 : 1);
            x.addLink(0, 2, 1, 1, fast == 0 ? 1 : 4);
            x.addLink(1, 3, 1, 1, fast == 0 ? 1 : 4);
            x.addLink(2, 3, 1, 1, fast == 0 ? 4 : 1);
            x.step(40);
            x.addNetwork(0, 0, 0);
            x.step(5);
            c.same("6: both are on their way to 3", x.letters(), 2);
            x.step(1);
            c.same("6: it came by both, and goes on by one", x.letters(), 1);
            x.step(1);
            c.same("6: the link 3 is the fast one, " + fast, x.letters(), 1 - fast);
        }
    }

    // "a link counts from its one router to its other one, if the letters of both have it"
    private static void lettersOfBoth() {
        Switchyard x = NetworkTest.withRouters(2);
        x.addLink(0, 1, 1, 1, 1);
        x.step(1);
        c.same("3: that of 0 alone has it", x.distance(0, 1), -1);
        c.same("3: no first links", x.firstLinks(0, 1), 0);
        x.step(1);
        c.same("3: both have it", x.distance(0, 1), 1);
        c.same("3: one first link", x.firstLinks(0, 1), 1);
        x.setUp(0, false);
        x.step(1);
        c.same("3: that of 1 alone has it", x.distance(0, 1), -1);
    }

    // "its cost is the one in the letter of the one from which one goes"
    private static void costOfTheOneFrom() {
        Switchyard x = NetworkTest.withRouters(2);
        x.addLink(0, 1, 7, 1, 20);
        x.step(21);
        x.setCost(0, 9);
        x.setUp(0, true);
        x.step(1);
        c.same("3: a by its own letter", x.distance(0, 1), 9);
        c.same("3: b by its own letter", x.distance(1, 0), 9);
        x.addRouter();
        x.addLink(2, 1, 1, 1, 1);
        x.step(3);
        // 2 got from 1 the letter of 1 with 9, and that of 0 with 7
        c.same("3: from 1 to 0 by that of 1", x.distance(2, 0), 1 + 9);
        x.step(20);
        c.same("3: 0 goes to 2 by its own one", x.distance(0, 2), 9 + 1);
    }

    // "The DISTANCE to a router is the least sum of costs on the way there; the FIRST LINKS to it are those links of
    // the router with which a way with the least sum can begin."
    private static void leastSum() {
        Switchyard x = NetworkTest.withRouters(4);
        x.addLink(0, 1, 2, 1, 1);
        x.addLink(1, 2, 3, 1, 1);
        x.addLink(0, 2, 5, 1, 1);
        x.addLink(2, 3, 1, 1, 1);
        x.addLink(0, 3, 6, 1, 1);
        x.step(9);
        c.same("3: two ways with the same sum", x.distance(0, 2), 5);
        c.same("3: both can begin it", x.firstLinks(0, 2), 2);
        c.same("3: three ways with the same sum", x.distance(0, 3), 6);
        c.same("3: all three can begin it", x.firstLinks(0, 3), 3);
        x.setCost(4, 7);
        x.step(2);
        c.same("3: a sum greater by 1", x.distance(0, 3), 6);
        c.same("3: does not begin it", x.firstLinks(0, 3), 2);
        x.setCost(4, 5);
        x.step(2);
        c.same("3: a sum less by 1", x.distance(0, 3), 5);
        c.same("3: begins it alone", x.firstLinks(0, 3), 1);
    }

    // at most 8 routers, with costs of at most 50 between them
    private static void longestWay() {
        Switchyard x = NetworkTest.withRouters(8);
        for (int i = 1; i < 8; i++) {
            x.addLink(i - 1, i, 50, 1, 1);
        }
        x.step(6);
        c.same("3: the letter of 7 did not come yet", x.letterOf(0, 7), 0);
        x.step(1);
        c.same("3: it is one link away", x.distance(0, 7), -1);
        x.step(1);
        c.same("3: seven links of 50", x.distance(0, 7), 350);
        c.same("3: and back", x.distance(7, 0), 350);
        c.same("3: one begins it", x.firstLinks(0, 7), 1);
    }

    // at most 14 links
    private static void mostFirstLinks() {
        Switchyard x = NetworkTest.withRouters(2);
        for (int i = 0; i < 14; i++) {
            x.addLink(i % 2, 1 - i % 2, 50, 1, 1);
        }
        x.addNetwork(1, 0, 0);
        for (int flow = 0; flow < 12; flow++) {
            x.addFlow(0, 0, 20, 0);
        }
        x.step(2);
        c.same("3: all 14", x.firstLinks(0, 1), 14);
        for (int flow = 0; flow < 12; flow++) {
            c.same("5: the place flow * 7 % 14, flow " + flow, x.nextLink(0, flow), flow % 2 * 7);
        }
        x.setUp(13, false);
        x.step(2);
        c.same("3: 13", x.firstLinks(0, 1), 13);
        c.same("5: the place 77 % 13", x.nextLink(0, 11), 12);
    }

    // "the entry is by the first of them: LOCAL [..]; STATIC [..]; LEARNED"
    private static void localStaticLearned() {
        Switchyard x = NetworkTest.withRouters(2);
        x.addLink(0, 1, 1, 1, 1);
        x.addNetwork(1, 0, 4);
        x.addNetwork(0, 0, 4);
        x.addStatic(0, 0, 4, 0);
        x.step(3);
        c.same("4: all three: LOCAL", x.sortOf(0, 0), 0);
        c.same("4: one entry", x.entries(0), 1);
        x.dropNetwork(1);
        x.step(1);
        c.same("4: two of them: STATIC", x.sortOf(0, 0), 1);
        x.dropStatic(0);
        x.step(1);
        c.same("4: one of them: LEARNED", x.sortOf(0, 0), 2);
        x.dropNetwork(0);
        x.step(2);
        c.same("4: none of them", x.sortOf(0, 0), -1);
        c.same("4: no entry", x.entries(0), 0);
    }

    // "STATIC, [..] by the one with the smallest number whose link is UP (those whose link is DOWN do not count)"
    private static void smallestStaticThatIsUp() {
        Switchyard x = NetworkTest.withRouters(2);
        for (int i = 0; i < 3; i++) {
            x.addLink(0, 1, 1, 1, 1);
        }
        x.addStatic(0, 0, 4, 1);
        x.addStatic(0, 0, 4, 0);
        x.addStatic(0, 0, 4, 2);
        x.addFlow(0, 0, 20, 0);
        x.step(1);
        c.same("4: the smallest number, not the smallest link", x.nextLink(0, 0), 1);
        x.setUp(1, false);
        c.same("4: until the tick", x.nextLink(0, 0), 1);
        x.step(1);
        c.same("4: the next number whose link is UP", x.nextLink(0, 0), 0);
        x.setUp(0, false);
        x.step(1);
        c.same("4: the last one", x.nextLink(0, 0), 2);
        x.setUp(2, false);
        x.step(1);
        c.same("4: all are DOWN", x.nextLink(0, 0), -1);
        c.same("4: no entry", x.entries(0), 0);
        x.setUp(1, true);
        x.step(1);
        c.same("4: UP again", x.nextLink(0, 0), 1);
    }

    // "LEARNED, if a letter that it keeps of another router, to which it has a distance, has a network"
    private static void learnedWithADistance() {
        Switchyard x = NetworkTest.withRouters(3);
        x.addLink(0, 1, 1, 1, 1);
        x.addLink(1, 2, 1, 1, 3);
        x.addNetwork(1, 0, 1);
        x.step(1);
        c.same("4: no letter", x.found(0, 0), -1);
        x.step(1);
        c.same("4: a letter and a distance", x.found(0, 0), 1);
        x.step(20);
        c.same("4: 2 as well", x.found(2, 0), 1);
        x.setUp(0, false);
        x.step(1);
        c.same("4: a letter, but no distance", x.found(0, 0), -1);
        c.same("4: it keeps the letter", x.letterOf(0, 1) > 0, true);
        c.same("4: 2 has its distance", x.found(2, 0), 1);
    }

    // "from the one of these that is nearest, of several the one with the smallest number; its links are the first
    // links to that router"
    private static void nearestThenSmallest() {
        Switchyard x = NetworkTest.withRouters(4);
        x.addLink(3, 2, 4, 1, 1);
        x.addLink(3, 1, 5, 1, 1);
        x.addLink(3, 1, 5, 1, 1);
        x.addLink(3, 0, 6, 1, 1);
        for (int router = 0; router < 3; router++) {
            x.addNetwork(router, 0, 0);
        }
        x.addFlow(3, 0, 20, 0);
        x.addFlow(3, 0, 20, 0);
        x.step(9);
        c.same("4: the nearest one", x.nextLink(3, 0), 0);
        x.setCost(0, 5);
        x.step(2);
        // the links 1 and 2 lead to 1; the places are (0 * 7 + 3) % 2 and (1 * 7 + 3) % 2
        c.same("4: of two the smaller number", x.nextLink(3, 0), 2);
        c.same("4: by its first links alone", x.nextLink(3, 1), 1);
        x.setCost(3, 5);
        x.step(2);
        c.same("4: of three the smallest number", x.nextLink(3, 0), 3);
        c.same("4: by its one link", x.nextLink(3, 1), 3);
    }

    // "are reckoned in each tick at the point 4, and at no other time"
    private static void reckonedInTicksOnly() {
        Switchyard x = NetworkTest.withRouters(3);
        x.addLink(0, 1, 1, 1, 1);
        x.addLink(0, 2, 9, 1, 1);
        x.addNetwork(1, 0, 1);
        x.addNetwork(0, 32768, 1);
        x.addStatic(0, 16384, 2, 1);
        x.addFlow(0, 0, 20, 0);
        x.step(9);
        x.setCost(0, 20);
        stayed(x, "setCost()");
        x.setUp(1, false);
        stayed(x, "setUp()");
        x.dropNetwork(1);
        stayed(x, "dropNetwork()");
        x.addNetwork(0, 0, 3);
        stayed(x, "addNetwork()");
        x.addStatic(0, 8192, 3, 0);
        stayed(x, "addStatic()");
        x.dropStatic(0);
        stayed(x, "dropStatic()");
        x.addLink(0, 1, 1, 1, 1);
        stayed(x, "addLink()");
        x.deliveredIn(0, 9);
        x.settledIn(9);
        stayed(x, "what would be");
        x.step(1);
        c.same("4: entries behind the tick", x.entries(0), 3);
        c.same("4: LOCAL behind the tick", x.nextLink(0, 0), -2);
        c.same("4: distance behind the tick", x.distance(0, 2), -1);
    }

    private static void stayed(Switchyard x, String behind) {
        c.same("4: entries stay behind " + behind, x.entries(0), 3);
        c.same("4: nodes stay behind " + behind, x.trieNodes(0), 4);
        c.same("4: what is found stays behind " + behind, x.found(0, 0) + 10 * x.found(0, 65535), 11);
        c.same("4: sorts stay behind " + behind, x.sortOf(0, 0) * 10 + x.sortOf(0, 16384), 21);
        c.same("4: distances stay behind " + behind, x.distance(0, 1) * 100 + x.distance(0, 2), 109);
        c.same("4: first links stay behind " + behind, x.firstLinks(0, 1) + x.firstLinks(0, 2), 2);
        c.same("4: the next link stays behind " + behind, x.nextLink(0, 0), 0);
        c.same("4: the route stays behind " + behind, x.route(0), 1);
    }

    // "Ahead of that a new router has no entries, and a distance only to itself; no other router has one to it."
    private static void newRouter() {
        Switchyard x = NetworkTest.withRouters(2);
        x.addLink(0, 1, 1, 1, 1);
        x.addNetwork(0, 0, 0);
        x.addStatic(0, 32768, 1, 0);
        x.addFlow(0, 0, 20, 0);
        c.same("4: no entries", x.entries(0), 0);
        c.same("4: to itself", x.distance(0, 0), 0);
        c.same("4: to no other one", x.distance(0, 1), -1);
        c.same("4: no first links", x.firstLinks(0, 1), 0);
        c.same("29: one node", x.trieNodes(0), 1);
        c.same("30: the first one", x.trieDepth(0), 1);
        c.same("31: one look", x.looks(0, 65535), 1);
        c.same("32: nothing", x.found(0, 0), -1);
        c.same("33: nothing", x.sortOf(0, 0), -1);
        c.same("34: nothing", x.nextLink(0, 0), -1);
        c.same("35: nothing", x.route(0), -1);
    }

    // the same, for one that comes later
    private static void newRouterLater() {
        Switchyard x = NetworkTest.withRouters(2);
        x.addLink(0, 1, 1, 1, 1);
        x.step(9);
        int router = x.addRouter();
        x.addLink(router, 0, 1, 1, 1);
        for (int to = 0; to < 3; to++) {
            c.same("4: from it to " + to, x.distance(router, to), to == router ? 0 : -1);
            c.same("4: to it from " + to, x.distance(to, router), to == router ? 0 : -1);
            c.same("4: first links from it to " + to, x.firstLinks(router, to), 0);
            c.same("4: first links to it from " + to, x.firstLinks(to, router), 0);
        }
        c.same("4: the others go on", x.distance(0, 1), 1);
        x.step(2);
        c.same("4: behind its letters", x.distance(0, router), 1);
    }

    // "The TRIE of a table has as nodes: the prefix of the length 0", "(1, if there is no other one)"
    private static void trieOfNothing() {
        trie(oneRouter(), "4: without entries", 1, 1);
    }

    // "the prefix of each entry": that of the length 0 is there already
    private static void trieOfLengthZero() {
        Switchyard x = oneRouter(0, 0);
        trie(x, "4: the length 0", 1, 1);
        c.same("4: one look", x.looks(0, 65535), 1);
    }

    private static void trie(Switchyard x, String what, int nodes, int depth) {
        c.same(what + ", nodes", x.trieNodes(0), nodes);
        c.same(what + ", depth", x.trieDepth(0), depth);
    }

    // "the longest prefix that fits both of their addresses, but no longer than either of them": one address
    private static void trieOfOneAddress() {
        trie(oneRouter(0, 5, 0, 9), "4: one address, two lengths", 3, 3);
        trie(oneRouter(0, 16, 0, 1), "4: one address, 1 and 16", 3, 3);
        trie(oneRouter(0, 9, 64, 10, 0, 0), "4: 9, and one below it", 3, 3);
    }

    // the same: two addresses that differ in the last bit alone
    private static void trieOfTheLastBit() {
        Switchyard x = oneRouter(65534, 16, 65535, 16);
        trie(x, "4: the last bit", 4, 3);
        c.same("4: to one side", x.looks(0, 65534), 3);
        c.same("4: to the other one", x.looks(0, 65535), 3);
        c.same("4: the node of the length 15 does not fit", x.looks(0, 65533), 2);
        c.same("4: nothing on the other side", x.looks(0, 0), 1);
    }

    // the same: two that differ in the first bit have the length 0 in common
    private static void trieOfTheFirstBit() {
        Switchyard x = oneRouter(0, 16, 32768, 16);
        trie(x, "4: the first bit", 3, 2);
        c.same("4: to one side", x.looks(0, 0), 2);
        c.same("4: the other side, though it does not fit", x.looks(0, 65535), 2);
    }

    // three that have only two nodes in common, one of which is an entry
    private static void trieBelowAnEntry() {
        // 1010, 10100001, 10100010: the two long ones have 101000 in common
        trie(oneRouter(0xA000, 4, 0xA100, 8, 0xA200, 8), "4: below an entry", 5, 4);
        // 1010, 10100000, 10101000: in common they have 1010, the entry
        trie(oneRouter(0xA000, 4, 0xA000, 8, 0xA800, 8), "4: in common an entry", 4, 3);
        // four that have three nodes in common in pairs: 00, 01 below 0; 0 and 1 below the length 0
        trie(oneRouter(0, 3, 0x2000, 3, 0x4000, 3, 0x6000, 3), "4: pairs", 8, 4);
    }

    // "each node that one comes to is a LOOK, the first one, too, and also the last one, if it does not fit"
    private static void looksAtOneThatDoesNotFit() {
        Switchyard x = oneRouter(0xA000, 4);
        c.same("4: it fits", x.looks(0, 0xAFFF), 2);
        c.same("4: it does not fit, and is a look", x.looks(0, 0x8000), 2);
        c.same("4: none on that side, no look", x.looks(0, 0x7FFF), 1);
        Switchyard y = oneRouter(0xA000, 4, 0xAF00, 8);
        c.same("4: both fit", y.looks(0, 0xAFFF), 3);
        c.same("4: the second one does not fit", y.looks(0, 0xA800), 3);
        c.same("4: none on that side of the first one", y.looks(0, 0xA7FF), 2);
    }

    // a node of the length 16 has no bit behind it
    private static void looksAtWholeAddress() {
        Switchyard x = oneRouter(0xFFFF, 16, 0, 16, 0, 0);
        trie(x, "4: whole addresses", 3, 2);
        c.same("4: the last address", x.looks(0, 0xFFFF), 2);
        c.same("4: the first address", x.looks(0, 0), 2);
        c.same("4: it is found", x.found(0, 0), 16);
        c.same("4: beside it the length 0 is", x.found(0, 1), 0);
    }

    // "The entry of the longest node that fits, and is the prefix of an entry, is what is found."
    private static void foundAreEntriesOnly() {
        // 10101000 and 10101100 have the node 10101 in common, which is no entry
        Switchyard x = oneRouter(0xA800, 8, 0xAC00, 8);
        c.same("4: the node fits, but is no entry", x.found(0, 0xAA00), -1);
        c.same("4: at the node, and at one that does not fit", x.looks(0, 0xAA00), 3);
        Switchyard y = oneRouter(0xA800, 8, 0xAC00, 8, 0x8000, 1);
        c.same("4: the longest entry that fits is above it", y.found(0, 0xAA00), 1);
        c.same("4: a longer entry that fits", y.found(0, 0xACFF), 8);
    }
}
