// Promises 23 to 27: letters, and the ways that routers reckon by them.
public final class KnowsTest {
    private static final Check c = new Check("KnowsTest");

    public static void main(String[] args) {
        promise23LetterOf();
        promise23OlderLetters();
        promise23ALetterStaysAsWritten();
        promise24Letters();
        promise24ManyLetters();
        promise25IsSettled();
        promise26Distance();
        promise26CostsByDirection();
        promise26BothLettersMustHaveIt();
        promise27FirstLinks();
        promise27FirstLinksBehindOthers();
        c.end();
    }

    private static void promise23LetterOf() {
        Switchyard x = NetworkTest.withRouters(3);
        c.same("23: 0 at first", x.letterOf(0, 0), 0);
        x.addNetwork(0, 0, 0);
        x.addNetwork(0, 0, 1);
        c.same("23: its own", x.letterOf(0, 0), 2);
        c.same("23: not that of another one", x.letterOf(1, 0), 0);
        x.addLink(0, 1, 1, 1, 2);
        x.addLink(1, 2, 1, 1, 2);
        x.step(3);
        c.same("23: 1 keeps that of 0", x.letterOf(1, 0), 3);
        c.same("23: 2 keeps that of 1", x.letterOf(2, 1), 2);
        c.same("23: 2 has none of 0 yet", x.letterOf(2, 0), 0);
        x.step(2);
        c.same("23: 1 sent it on to 2", x.letterOf(2, 0), 3);
        x.addRouter();
        c.same("23: a new one is not known", x.letterOf(0, 3) + x.letterOf(3, 0), 0);
        c.noSuch(x, "23: no router -1", () -> x.letterOf(-1, 0));
        c.noSuch(x, "23: no router 4", () -> x.letterOf(4, 0));
        c.noSuch(x, "23: of no router -1", () -> x.letterOf(0, -1));
        c.noSuch(x, "23: of no router 4", () -> x.letterOf(0, 4));
    }

    // The newer letter comes first, along the fast link; the older one is thrown away then.
    private static void promise23OlderLetters() {
        Switchyard x = NetworkTest.withRouters(2);
        x.addLink(0, 1, 1, 1, 20);
        x.step(2);
        x.addLink(0, 1, 1, 1, 1);
        x.step(2);
        c.same("23: by the fast link", x.letterOf(1, 0), 2);
        int onTheirWay = x.letters();
        // the letters 1 of both, the letters 2 of both, and the letters 2 that came fast and go on by the slow link
        c.same("23: on the slow link", onTheirWay, 6);
        x.step(16);
        c.same("23: those of the time 0 come in tick 20", x.letters(), 6);
        x.step(1);
        c.same("23: the older ones came", x.letters(), 4);
        c.same("23: and are thrown away", x.letterOf(1, 0), 2);
        x.step(2);
        c.same("23: the same ones are not sent on", x.letters(), 2);
        x.step(1);
        c.same("23: nor those that went round", x.letters(), 0);
    }

    private static void promise23ALetterStaysAsWritten() {
        Switchyard x = NetworkTest.withRouters(2);
        x.addLink(0, 1, 5, 1, 10);
        x.addNetwork(0, 0, 1);
        x.step(5);
        x.dropNetwork(0);
        x.setCost(0, 7);
        x.step(6);
        c.same("23: the network of then", x.found(1, 0), 1);
        c.same("23: number of it", x.letterOf(1, 0), 2);
        // its own letter has the new cost at once
        c.same("23: the cost of its own", x.distance(1, 0), 7);
        x.step(5);
        c.same("23: no network any more", x.found(1, 0), -1);
        c.same("23: number of the last one", x.letterOf(1, 0), 4);
    }

    private static void promise24Letters() {
        Switchyard x = NetworkTest.withRouters(4);
        x.addLink(0, 1, 1, 1, 1);
        x.addLink(0, 2, 1, 1, 2);
        x.addLink(0, 3, 1, 1, 3);
        x.step(20);
        c.same("24: none", x.letters(), 0);
        x.addNetwork(0, 0, 0);
        c.same("24: one on each link", x.letters(), 3);
        x.step(1);
        c.same("24: none came yet", x.letters(), 3);
        x.step(1);
        c.same("24: one came", x.letters(), 2);
        x.step(1);
        c.same("24: two came", x.letters(), 1);
        x.step(1);
        c.same("24: all came", x.letters(), 0);
        x.addNetwork(3, 0, 0);
        x.step(4);
        c.same("24: 0 sends it on along the two others", x.letters(), 2);
    }

    // three letters in each tick, and many more at once, along one link
    private static void promise24ManyLetters() {
        Switchyard x = NetworkTest.withRouters(2);
        x.addLink(0, 1, 1, 1, 20);
        x.step(30);
        for (int i = 0; i < 20; i++) {
            for (int j = 0; j < 3; j++) {
                x.setCost(0, 2 + (3 * i + j) % 2);
            }
            x.step(1);
        }
        c.same("24: three of each in 20 ticks", x.letters(), 120);
        for (int i = 1; i <= 20; i++) {
            x.step(1);
            c.same("24: three of each come in a tick", x.letters(), 120 - 6 * i);
            c.same("23: the last one of them", x.letterOf(1, 0), 1 + 3 * i);
        }
        for (int i = 0; i < 300; i++) {
            x.setCost(0, 4 + i % 2);
        }
        c.same("24: all at once", x.letters(), 600);
        x.step(20);
        c.same("24: they are on their way", x.letters(), 600);
        x.step(1);
        c.same("24: they came", x.letters(), 0);
        c.same("23: the last one", x.letterOf(1, 0), 361);
    }

    private static void promise25IsSettled() {
        Switchyard x = NetworkTest.withRouters(2);
        c.same("25: at first", x.isSettled(), true);
        x.addNetwork(0, 0, 0);
        c.same("25: a letter without a link", x.isSettled(), true);
        x.addLink(0, 1, 1, 1, 20);
        c.same("25: letters on the link", x.isSettled(), false);
        x.step(20);
        c.same("25: until tick 20", x.isSettled(), false);
        x.step(1);
        c.same("25: behind it", x.isSettled(), true);
    }

    private static void promise26Distance() {
        Switchyard x = NetworkTest.withRouters(4);
        x.addLink(0, 1, 10, 1, 1);
        x.addLink(1, 2, 10, 1, 1);
        x.addLink(0, 2, 25, 1, 1);
        c.same("26: to itself", x.distance(2, 2), 0);
        c.same("26: nothing is reckoned yet", x.distance(0, 1), -1);
        x.step(10);
        c.same("26: the shorter way", x.distance(0, 2), 20);
        c.same("26: one link", x.distance(2, 1), 10);
        c.same("26: no way", x.distance(0, 3), -1);
        c.same("26: no way from there", x.distance(3, 0), -1);
        x.setCost(2, 19);
        c.same("26: as it was reckoned last", x.distance(0, 2), 20);
        x.step(1);
        c.same("26: the other way is shorter", x.distance(0, 2), 19);
        x.setUp(2, false);
        x.step(1);
        c.same("26: it is DOWN", x.distance(0, 2), 20);
        c.noSuch(x, "26: no router -1", () -> x.distance(-1, 0));
        c.noSuch(x, "26: no router 4", () -> x.distance(4, 0));
        c.noSuch(x, "26: to no router -1", () -> x.distance(0, -1));
        c.noSuch(x, "26: to no router 4", () -> x.distance(0, 4));
    }

    // Until the letters came, the two ends tell other costs: that of the end from which one goes counts.
    private static void promise26CostsByDirection() {
        Switchyard x = NetworkTest.withRouters(3);
        x.addLink(0, 1, 10, 1, 1);
        x.addLink(1, 2, 10, 1, 20);
        x.step(50);
        x.setCost(0, 3);
        x.step(1);
        c.same("26: 0 goes by its own letter", x.distance(0, 2), 13);
        c.same("26: 2 does not know yet", x.distance(2, 0), 20);
        x.setCost(1, 4);
        x.step(1);
        c.same("26: 2 knows its own", x.distance(2, 0), 4 + 10);
        c.same("26: 1 knows both", x.distance(1, 0) + x.distance(1, 2), 3 + 4);
        c.same("26: 0 goes by the letter of 1", x.distance(0, 2), 3 + 10);
        x.step(1);
        c.same("26: the letter of 1 came", x.distance(0, 2), 3 + 4);
    }

    private static void promise26BothLettersMustHaveIt() {
        Switchyard x = NetworkTest.withRouters(3);
        x.addLink(0, 1, 10, 1, 1);
        x.addLink(1, 2, 10, 1, 3);
        x.step(20);
        x.addLink(0, 2, 1, 1, 7);
        x.step(1);
        c.same("26: 0 has no letter of 2 with it", x.distance(0, 2), 20);
        x.step(4);
        // that of 2 comes to 1 in the tick 23, and to 0 in the tick 24
        c.same("26: now it has", x.distance(0, 2), 1);
        x.step(20);
        x.setUp(2, false);
        x.step(1);
        c.same("26: its own letter does not have it", x.distance(0, 2), 20);
        x.step(1);
        c.same("26: 1 has one letter without it", x.distance(1, 2), 10);
    }

    private static void promise27FirstLinks() {
        Switchyard x = NetworkTest.withRouters(5);
        x.addLink(0, 1, 2, 1, 1);
        x.addLink(0, 1, 2, 1, 1);
        x.addLink(0, 1, 3, 1, 1);
        x.addLink(0, 2, 1, 1, 1);
        x.addLink(2, 1, 1, 1, 1);
        x.addLink(1, 3, 1, 1, 1);
        c.same("27: none yet", x.firstLinks(0, 1), 0);
        x.step(10);
        c.same("27: two beside each other, and one round", x.firstLinks(0, 1), 3);
        c.same("27: the same ones, further on", x.firstLinks(0, 3), 3);
        c.same("27: one", x.firstLinks(0, 2), 1);
        c.same("27: back", x.firstLinks(3, 0), 1);
        c.same("27: to itself", x.firstLinks(0, 0), 0);
        c.same("27: no way", x.firstLinks(0, 4), 0);
        x.setCost(0, 4);
        c.same("27: as it was reckoned last", x.firstLinks(0, 1), 3);
        x.step(1);
        c.same("27: one less", x.firstLinks(0, 1), 2);
        c.noSuch(x, "27: no router -1", () -> x.firstLinks(-1, 0));
        c.noSuch(x, "27: no router 5", () -> x.firstLinks(5, 0));
        c.noSuch(x, "27: to no router -1", () -> x.firstLinks(0, -1));
        c.noSuch(x, "27: to no router 5", () -> x.firstLinks(0, 5));
    }

    // Two ways of the same sum that meet: 0-1-3-4 and 0-2-3-4.
    private static void promise27FirstLinksBehindOthers() {
        Switchyard x = NetworkTest.withRouters(5);
        x.addLink(0, 1, 1, 1, 1);
        x.addLink(0, 2, 4, 1, 1);
        x.addLink(1, 3, 5, 1, 1);
        x.addLink(2, 3, 2, 1, 1);
        x.addLink(3, 4, 1, 1, 1);
        x.step(10);
        c.same("27: the sum", x.distance(0, 4), 7);
        c.same("27: both can begin it", x.firstLinks(0, 4), 2);
        c.same("27: back there is one", x.firstLinks(4, 0), 1);
        c.same("27: 3 has two", x.firstLinks(3, 0), 2);
    }
}
