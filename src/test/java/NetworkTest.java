// Promises 1 to 11: what is added, set and taken away.
public final class NetworkTest {
    private static final Check c = new Check("NetworkTest");

    public static void main(String[] args) {
        promise1NewObject();
        promise2AddRouter();
        promise3AddLink();
        promise3WrongLinks();
        promise3Letters();
        promise4SetCost();
        promise5SetUp();
        promise5LettersOfDown();
        promise5PacketsOfDown();
        promise5WholeLinkOfDown();
        promise6AddNetwork();
        promise7DropNetwork();
        promise8AddStatic();
        promise9DropStatic();
        promise10SetPort();
        promise10QueuesStay();
        promise10TurnsBegin();
        promise11SetWeight();
        c.end();
    }

    static Switchyard withRouters(int many) {
        Switchyard x = new Switchyard();
        for (int i = 0; i < many; i++) {
            x.addRouter();
        }
        return x;
    }

    private static void promise1NewObject() {
        Switchyard x = new Switchyard();
        c.same("1: time()", x.time(), 0);
        c.same("1: routers()", x.routers(), 0);
        c.same("1: links()", x.links(), 0);
        c.same("1: networks()", x.networks(), 0);
        c.same("1: statics()", x.statics(), 0);
        c.same("1: flows()", x.flows(), 0);
        c.same("1: letters()", x.letters(), 0);
        c.same("1: isSettled()", x.isSettled(), true);
        c.noSuch(x, "1: entries(0)", () -> x.entries(0));
        c.same("1: step(60)", x.step(60), 60);
    }

    private static void promise2AddRouter() {
        Switchyard x = new Switchyard();
        for (int i = 0; i < 8; i++) {
            c.same("2: addRouter()", x.addRouter(), i);
            c.same("2: routers()", x.routers(), i + 1);
        }
        c.notNow(x, "2: the ninth addRouter()", () -> x.addRouter());
        c.same("2: nobody writes", x.letters() + x.letterOf(7, 7), 0);
    }

    private static void promise3AddLink() {
        Switchyard x = withRouters(3);
        c.same("3: the least values", x.addLink(0, 1, 1, 1, 1), 0);
        c.same("3: the greatest values", x.addLink(2, 1, 50, 200, 20), 1);
        c.same("3: it is UP", x.isUp(1), true);
        for (int i = 2; i < 14; i++) {
            c.same("3: addLink() beside others", x.addLink(0, 1, 7, 50, 2), i);
        }
        c.same("3: links()", x.links(), 14);
        c.notNow(x, "3: the fifteenth link", () -> x.addLink(0, 1, 7, 50, 2));
        c.wrong(x, "3: wrong, and too many", () -> x.addLink(0, 0, 7, 50, 2));
        c.noSuch(x, "3: no router, and too many", () -> x.addLink(0, 3, 7, 50, 2));
    }

    private static void promise3WrongLinks() {
        Switchyard x = withRouters(2);
        c.noSuch(x, "3: a is -1", () -> x.addLink(-1, 1, 1, 1, 1));
        c.noSuch(x, "3: a is 2", () -> x.addLink(2, 1, 1, 1, 1));
        c.noSuch(x, "3: b is -1", () -> x.addLink(0, -1, 1, 1, 1));
        c.noSuch(x, "3: b is 2, and all is wrong", () -> x.addLink(0, 2, 0, 0, 0));
        c.noSuch(x, "3: a and b are 2", () -> x.addLink(2, 2, 1, 1, 1));
        c.wrong(x, "3: a is b", () -> x.addLink(1, 1, 1, 1, 1));
        c.wrong(x, "3: cost 0", () -> x.addLink(0, 1, 0, 1, 1));
        c.wrong(x, "3: cost 51", () -> x.addLink(0, 1, 51, 1, 1));
        c.wrong(x, "3: rate 0", () -> x.addLink(0, 1, 1, 0, 1));
        c.wrong(x, "3: rate 201", () -> x.addLink(0, 1, 1, 201, 1));
        c.wrong(x, "3: delay 0", () -> x.addLink(0, 1, 1, 1, 0));
        c.wrong(x, "3: delay 21", () -> x.addLink(0, 1, 1, 1, 21));
        c.wrong(x, "3: the least int", () -> x.addLink(0, 1, Integer.MIN_VALUE, 1, 1));
        c.same("3: links()", x.links(), 0);
    }

    private static void promise3Letters() {
        Switchyard x = withRouters(3);
        x.addLink(0, 1, 5, 50, 1);
        c.same("3: a and b write", x.letters(), 2);
        c.same("3: a keeps its own", x.letterOf(0, 0), 1);
        c.same("3: b keeps its own", x.letterOf(1, 1), 1);
        c.same("3: a has none of b yet", x.letterOf(0, 1), 0);
        x.step(2);
        c.same("3: a has that of b", x.letterOf(0, 1), 1);
        c.same("3: all came", x.letters(), 0);
        x.addLink(2, 0, 5, 50, 3);
        // 2 writes along the new link, 0 along both, then 0 sends that of 1 along the new one
        c.same("3: also what 0 keeps is sent", x.letters(), 4);
        x.step(3);
        c.same("3: 1 has the new one of 0", x.letterOf(1, 0), 2);
        c.same("3: 2 has none yet", x.letterOf(2, 1), 0);
        x.step(1);
        c.same("3: 2 has that of 0", x.letterOf(2, 0), 2);
        c.same("3: 2 has that of 1, too", x.letterOf(2, 1), 1);
        c.same("3: 0 sends that of 2 on", x.letters(), 1);
        x.step(1);
        c.same("3: 1 has that of 2", x.letterOf(1, 2), 1);
        // each of the two keeps and sends that of the other one, as it kept it
        x.addLink(0, 1, 5, 50, 1);
        c.same("3: those of the other end are sent, too", x.letters(), 2 + 3 + 2 + 2);
    }

    private static void promise4SetCost() {
        Switchyard x = withRouters(2);
        x.addLink(0, 1, 5, 50, 1);
        x.step(2);
        c.same("4: the same cost", x.setCost(0, 5), 5);
        c.same("4: nobody writes", x.letters() + x.letterOf(0, 0), 1);
        c.same("4: another cost", x.setCost(0, 50), 5);
        c.same("4: a and b write", x.letters(), 2);
        c.same("4: the number of a's", x.letterOf(0, 0), 2);
        c.same("4: the number of b's", x.letterOf(1, 1), 2);
        c.same("4: the distance stays", x.distance(0, 1), 5);
        x.step(1);
        c.same("4: the distance behind a tick, by its own letter", x.distance(0, 1), 50);
        x.setUp(0, false);
        c.same("4: while it is DOWN", x.setCost(0, 1), 50);
        c.same("4: then nobody writes", x.letterOf(0, 0), 3);
        x.setUp(0, true);
        x.step(2);
        c.same("4: it comes UP with it", x.distance(1, 0), 1);
        c.noSuch(x, "4: no link -1", () -> x.setCost(-1, 5));
        c.noSuch(x, "4: no link 1, and a wrong cost", () -> x.setCost(1, 0));
        c.wrong(x, "4: cost 0", () -> x.setCost(0, 0));
        c.wrong(x, "4: cost 51", () -> x.setCost(0, 51));
        c.same("4: as it was set last", x.setCost(0, 2), 1);
    }

    private static void promise5SetUp() {
        Switchyard x = withRouters(2);
        x.addLink(0, 1, 5, 50, 1);
        x.step(3);
        c.same("5: UP, and was", x.setUp(0, true), true);
        c.same("5: nobody writes", x.letters() + x.letterOf(0, 0), 1);
        c.same("5: DOWN, and was UP", x.setUp(0, false), true);
        c.same("5: it is DOWN", x.isUp(0), false);
        c.same("5: a writes", x.letterOf(0, 0), 2);
        c.same("5: b writes", x.letterOf(1, 1), 2);
        c.same("5: but there is no link to send along", x.letters(), 0);
        c.same("5: DOWN, and was", x.setUp(0, false), false);
        c.same("5: nobody writes again", x.letterOf(0, 0), 2);
        c.same("5: the distance stays", x.distance(0, 1), 5);
        x.step(1);
        c.same("5: no way", x.distance(0, 1), -1);
        c.same("5: no way back", x.distance(1, 0), -1);
        c.same("5: no first links", x.firstLinks(0, 1) + x.firstLinks(1, 0), 0);
        c.same("5: UP, and was DOWN", x.setUp(0, true), false);
        c.same("5: it is UP", x.isUp(0), true);
        c.same("5: both write, and send the old one of each other", x.letters(), 4);
        c.noSuch(x, "5: no link -1", () -> x.setUp(-1, true));
        c.noSuch(x, "5: no link 1", () -> x.setUp(1, false));
    }

    private static void promise5LettersOfDown() {
        Switchyard x = withRouters(3);
        x.addLink(0, 1, 5, 50, 4);
        x.addLink(1, 2, 5, 50, 4);
        c.same("5: on their way", x.letters(), 2 + 3);
        x.step(4);
        x.setUp(0, false);
        // the new one of 1 goes along the link 1, where three are on their way
        c.same("5: those on the link are lost", x.letters(), 2 + 1);
        x.step(5);
        c.same("5: 1 never got that of 0", x.letterOf(1, 0), 0);
        c.same("5: 2 got those of 1", x.letterOf(2, 1), 3);
    }

    private static void promise5PacketsOfDown() {
        Switchyard x = withRouters(2);
        x.addLink(0, 1, 1, 100, 5);
        x.addNetwork(1, 0, 0);
        x.addNetwork(0, 32768, 1);
        x.addFlow(0, 5, 100, 0);
        x.addFlow(1, 40000, 150, 3);
        x.step(7);
        x.setPort(0, true, 2, 5000, false);
        x.setWeight(0, true, 3, 2);
        x.schedule(0, 7, 1, 3);
        x.schedule(1, 7, 1, 3);
        x.step(3);
        c.same("5: on the link, ahead", x.onLink(0), 4);
        c.same("5: sent at b, ahead", x.sending(0, true), 50);
        c.same("5: waits at b, ahead", x.waiting(0, true), 150);
        c.same("5: the deficit of 3 at b, ahead", x.deficit(0, true, 3), 100);
        x.setUp(0, false);
        c.same("5: all those of flow 0", x.dropped(0, 6), 3);
        c.same("5: all those of flow 1", x.dropped(1, 6), 3);
        c.same("5: none on the link", x.onLink(0), 0);
        c.same("5: none is sent", x.sending(0, true), 0);
        c.same("5: none waits", x.waiting(0, true), 0);
        c.same("5: the deficit is 0", x.deficit(0, true, 3), 0);
        x.setUp(0, true);
        x.step(40);
        c.same("5: none comes later", x.delivered(0) + x.delivered(1), 0);
    }

    private static void promise5WholeLinkOfDown() {
        Switchyard x = pair(200, 20);
        x.addFlow(0, 9, 20, 0);
        x.schedule(0, 1, 1, 60);
        x.step(30);
        c.same("5: one in each tick of the delay", x.onLink(0), 20);
        x.setUp(0, false);
        c.same("5: all of them are dropped", x.dropped(0, 6), 20);
        c.same("5: none is left", x.onLink(0), 0);
    }

    private static void promise6AddNetwork() {
        Switchyard x = withRouters(2);
        c.same("6: the prefix of all", x.addNetwork(0, 0, 0), 0);
        c.same("6: the last address", x.addNetwork(0, 65535, 16), 1);
        c.same("6: the same at another router", x.addNetwork(1, 0, 0), 2);
        c.same("6: the same address with another length", x.addNetwork(0, 0, 1), 3);
        c.same("6: its router writes", x.letterOf(0, 0), 3);
        c.notNow(x, "6: the same prefix as that of 0", () -> x.addNetwork(0, 0, 0));
        c.notNow(x, "6: the same prefix as that of 1", () -> x.addNetwork(0, 65535, 16));
        c.noSuch(x, "6: no router -1", () -> x.addNetwork(-1, 0, 3));
        c.noSuch(x, "6: no router 2, and all wrong", () -> x.addNetwork(2, -1, 17));
        c.wrong(x, "6: address -1", () -> x.addNetwork(0, -1, 16));
        c.wrong(x, "6: address 65536", () -> x.addNetwork(0, 65536, 16));
        c.wrong(x, "6: length -1", () -> x.addNetwork(0, 0, -1));
        c.wrong(x, "6: length 17", () -> x.addNetwork(0, 0, 17));
        c.wrong(x, "6: length 32", () -> x.addNetwork(0, 0, 32));
        c.wrong(x, "6: a 1 behind the length", () -> x.addNetwork(0, 1, 15));
        c.wrong(x, "6: a 1 behind the length 0", () -> x.addNetwork(0, 32768, 0));
        for (int i = 4; i < 24; i++) {
            c.same("6: addNetwork()", x.addNetwork(1, i * 256, 8), i);
        }
        c.same("6: networks()", x.networks(), 24);
        c.notNow(x, "6: the twenty-fifth", () -> x.addNetwork(1, 0, 8));
        c.wrong(x, "6: wrong, and too many", () -> x.addNetwork(1, 1, 8));
        c.same("6: entries of 0 ahead of a tick", x.entries(0), 0);
        x.step(1);
        c.same("6: entries of 0", x.entries(0), 3);
        c.same("6: entries of 1", x.entries(1), 21);
    }

    private static void promise7DropNetwork() {
        Switchyard x = withRouters(2);
        x.addLink(0, 1, 1, 100, 1);
        x.addNetwork(0, 0, 1);
        x.addNetwork(1, 32768, 1);
        x.addNetwork(0, 16384, 2);
        x.step(3);
        c.noSuch(x, "7: no network -1", () -> x.dropNetwork(-1));
        c.noSuch(x, "7: no network 3", () -> x.dropNetwork(3));
        c.same("7: dropNetwork(0)", x.dropNetwork(0), 2);
        c.same("7: its router writes", x.letterOf(0, 0), 4);
        c.same("7: no other one does", x.letterOf(1, 1), 2);
        c.same("7: the letter goes out", x.letters(), 1);
        c.same("7: found until the tick", x.found(0, 1), 1);
        x.step(1);
        c.same("7: found no more", x.found(0, 1), -1);
        c.same("7: its length 2 is found", x.found(0, 16384), 2);
        c.same("7: the other one does not know yet", x.found(1, 1), 1);
        x.step(1);
        c.same("7: now it does", x.found(1, 1), -1);
        c.same("7: that with the number 2 has 1 now", x.dropNetwork(1), 1);
        x.step(2);
        c.same("7: it is gone", x.found(1, 16384), -1);
        c.same("7: the other one is there", x.found(0, 32768), 1);
        c.same("7: the last one", x.dropNetwork(0), 0);
        c.noSuch(x, "7: none is left", () -> x.dropNetwork(0));
        c.same("7: it can be added again", x.addNetwork(0, 0, 1), 0);
    }

    private static void promise8AddStatic() {
        Switchyard x = withRouters(3);
        x.addLink(0, 1, 1, 100, 1);
        x.addLink(1, 2, 1, 100, 1);
        int letter = x.letterOf(1, 1);
        c.same("8: addStatic()", x.addStatic(1, 4096, 4, 0), 0);
        c.same("8: the same prefix once more", x.addStatic(1, 4096, 4, 1), 1);
        c.same("8: statics()", x.statics(), 2);
        c.same("8: nobody writes", x.letterOf(1, 1), letter);
        c.same("8: no entry ahead of a tick", x.entries(1), 0);
        x.step(1);
        c.same("8: one entry", x.entries(1), 1);
        c.same("8: it is STATIC", x.sortOf(1, 4097), 1);
        c.noSuch(x, "8: no router -1", () -> x.addStatic(-1, 0, 0, 0));
        c.noSuch(x, "8: no router 3", () -> x.addStatic(3, 0, 0, 0));
        c.noSuch(x, "8: no link -1", () -> x.addStatic(0, 0, 0, -1));
        c.noSuch(x, "8: no link 2, and all wrong", () -> x.addStatic(0, -1, 17, 2));
        c.wrong(x, "8: address -1", () -> x.addStatic(0, -1, 0, 0));
        c.wrong(x, "8: address 65536", () -> x.addStatic(0, 65536, 16, 0));
        c.wrong(x, "8: length -1", () -> x.addStatic(0, 0, -1, 0));
        c.wrong(x, "8: length 17", () -> x.addStatic(0, 0, 17, 0));
        c.wrong(x, "8: a 1 behind the length", () -> x.addStatic(0, 3, 15, 0));
        c.wrong(x, "8: the link of others", () -> x.addStatic(0, 0, 0, 1));
        x.setUp(0, false);
        for (int i = 2; i < 24; i++) {
            c.same("8: also along a link that is DOWN", x.addStatic(0, 0, 0, 0), i);
        }
        c.notNow(x, "8: the twenty-fifth", () -> x.addStatic(0, 0, 0, 0));
        c.wrong(x, "8: wrong, and too many", () -> x.addStatic(2, 0, 0, 0));
    }

    private static void promise9DropStatic() {
        Switchyard x = withRouters(3);
        x.addLink(0, 1, 1, 100, 1);
        x.addLink(0, 2, 1, 100, 1);
        x.addFlow(0, 0, 20, 0);
        x.addStatic(0, 0, 0, 1);
        x.addStatic(0, 0, 0, 0);
        x.addStatic(1, 0, 0, 0);
        x.step(1);
        c.noSuch(x, "9: no route -1", () -> x.dropStatic(-1));
        c.noSuch(x, "9: no route 3", () -> x.dropStatic(3));
        c.same("9: the smallest number counts", x.nextLink(0, 0), 1);
        c.same("9: dropStatic(0)", x.dropStatic(0), 2);
        c.same("9: statics()", x.statics(), 2);
        c.same("9: ahead of the tick", x.nextLink(0, 0), 1);
        x.step(1);
        c.same("9: the next one counts", x.nextLink(0, 0), 0);
        c.same("9: numbers are one less", x.dropStatic(1), 1);
        x.step(1);
        c.same("9: that of 1 is gone", x.nextLink(1, 0), -1);
        c.same("9: that of 0 is there", x.nextLink(0, 0), 0);
        c.same("9: the last one", x.dropStatic(0), 0);
        x.step(1);
        c.same("9: none is left", x.nextLink(0, 0), -1);
        c.noSuch(x, "9: no route 0", () -> x.dropStatic(0));
    }

    // 0 sends to 1, which has all addresses; at time 2 both know
    static Switchyard pair(int rate, int delay) {
        Switchyard x = withRouters(2);
        x.addLink(0, 1, 1, rate, delay);
        x.addStatic(0, 0, 0, 0);
        x.addNetwork(1, 0, 0);
        x.step(1);
        return x;
    }

    private static void promise10SetPort() {
        Switchyard x = pair(1, 1);
        c.noSuch(x, "10: no link -1", () -> x.setPort(-1, false, 0, 50, false));
        c.noSuch(x, "10: no link 1, and all wrong", () -> x.setPort(1, true, 3, 0, false));
        c.wrong(x, "10: discipline -1", () -> x.setPort(0, false, -1, 50, false));
        c.wrong(x, "10: discipline 3", () -> x.setPort(0, false, 3, 50, false));
        c.wrong(x, "10: limit 49", () -> x.setPort(0, false, 0, 49, false));
        c.wrong(x, "10: limit 5001", () -> x.setPort(0, false, 0, 5001, false));
        x.addFlow(0, 9, 500, 0);
        x.schedule(0, 1, 1, 20);
        x.step(6);
        // one is sent, four wait, the sixth is above the limit of 2000
        c.same("10: the first limit", x.dropped(0, 4), 1);
        c.same("10: setPort() tells how many wait", x.setPort(0, false, 0, 50, false), 4);
        c.same("10: at b none", x.setPort(0, true, 0, 5000, false), 0);
        c.same("10: they stay above the new limit", x.waiting(0, false), 2000);
        x.step(1);
        c.same("10: now the next one is above", x.dropped(0, 4), 2);
        x.setPort(0, false, 0, 5000, false);
        x.step(6);
        c.same("10: the greatest limit", x.waiting(0, false), 5000);
        x.step(1);
        c.same("10: one above it", x.dropped(0, 4), 3);
    }

    private static void promise10QueuesStay() {
        Switchyard x = pair(1, 1);
        for (int ofClass : new int[] {3, 0, 2, 3, 1}) {
            int flow = x.addFlow(0, 9, 20 + x.flows(), ofClass);
            x.schedule(flow, 1, 1, 1);
        }
        x.step(1);
        x.setPort(0, false, 1, 2000, false);
        c.same("10: what is sent stays", x.sending(0, false), 19);
        x.step(19);
        x.step(1);
        c.same("10: then the smallest class goes", x.sending(0, false), 20);
        x.setPort(0, false, 0, 2000, false);
        x.step(20);
        x.step(1);
        c.same("10: then that which came first", x.sending(0, false), 21);
        x.setPort(0, false, 2, 2000, false);
        x.step(22);
        c.same("10: then the smallest class of the turn", x.sending(0, false), 23);
        c.same("10: that one has its share less its size", x.deficit(0, false, 1), 100 - 24);
    }

    private static void promise10TurnsBegin() {
        Switchyard x = pair(200, 1);
        x.setPort(0, false, 2, 5000, false);
        x.addFlow(0, 9, 60, 2);
        x.addFlow(0, 9, 70, 3);
        x.schedule(0, 1, 1, 3);
        x.schedule(1, 1, 1, 3);
        x.step(1);
        c.same("10: a share of 2", x.deficit(0, false, 2), 40);
        x.setPort(0, false, 2, 5000, false);
        c.same("10: deficits are 0", x.deficit(0, false, 2), 0);
        x.step(1);
        c.same("10: the class has a new share", x.deficit(0, false, 2), 40);
        c.same("10: the other one none", x.deficit(0, false, 3), 0);
    }

    private static void promise11SetWeight() {
        Switchyard x = pair(200, 1);
        c.same("11: 1 at first", x.setWeight(0, false, 0, 4), 1);
        c.same("11: the one before", x.setWeight(0, false, 0, 3), 4);
        c.same("11: that at b is another one", x.setWeight(0, true, 0, 2), 1);
        c.same("11: that of class 3, too", x.setWeight(0, false, 3, 1), 1);
        c.noSuch(x, "11: no link -1", () -> x.setWeight(-1, false, 0, 1));
        c.noSuch(x, "11: no link 1", () -> x.setWeight(1, false, 0, 1));
        c.noSuch(x, "11: no class -1", () -> x.setWeight(0, false, -1, 1));
        c.noSuch(x, "11: no class 4, and a wrong weight", () -> x.setWeight(0, false, 4, 0));
        c.wrong(x, "11: weight 0", () -> x.setWeight(0, false, 0, 0));
        c.wrong(x, "11: weight 5", () -> x.setWeight(0, false, 0, 5));
        x.setPort(0, false, 2, 5000, false);
        x.addFlow(0, 9, 250, 0);
        x.schedule(0, 1, 1, 1);
        x.step(1);
        c.same("11: a share of 300", x.deficit(0, false, 0), 50);
        c.same("11: setPort() leaves it", x.setWeight(0, false, 0, 1), 3);
    }
}
