/** Promises 17 to 24: questions of ways. */
public final class WayTest {
    private static final Check CHECK = new Check("WayTest");

    public static void main(String[] args) {
        distance();
        shortest();
        believed();
        ways();
        parts();
        bridge();
        cut();
        farthest();
        CHECK.end();
    }

    /** 6 7 8 above 3 4 5 above 0 1 2; without 0-1, 4-5 and 7-8. */
    private static ChipNetwork nine() {
        return Check.loaded("grid 3 3;stale 5;dead 0 east;dead 4 east;dead 8 west;lesson 0 0 north;lesson 0 3 north;");
    }

    private interface Question {
        int of(int from, int to);
    }

    private static void needsNodes(String what, int nodes, Question question) {
        CHECK.fails(what + ": no from", Check.NO_INDEX, () -> question.of(nodes, 0));
        CHECK.fails(what + ": from -1", Check.NO_INDEX, () -> question.of(-1, 0));
        CHECK.fails(what + ": no to", Check.NO_INDEX, () -> question.of(0, nodes));
        CHECK.fails(what + ": to -1", Check.NO_INDEX, () -> question.of(0, -1));
        CHECK.fails(what + ": no node twice", Check.NO_INDEX, () -> question.of(nodes, nodes));
    }

    // Promise 17
    private static void distance() {
        ChipNetwork net = nine();
        CHECK.is("0 to 8", net.distance(0, 8), 4);
        CHECK.is("8 to 0", net.distance(8, 0), 4);
        CHECK.is("2 to 3", net.distance(2, 3), 3);
        CHECK.is("0 to 1, over a dead link", net.distance(0, 1), 1);
        CHECK.is("4 to 4", net.distance(4, 4), 0);
        CHECK.is("corners", Check.loaded("grid 6 6;").distance(5, 30), 10);
        needsNodes("distance", 9, net::distance);
    }

    // Promise 18
    private static void shortest() {
        ChipNetwork net = nine();
        CHECK.is("0 to 1 round 3 and 4", net.shortest(0, 1), 3);
        CHECK.is("4 to 5 round 1 and 2", net.shortest(4, 5), 3);
        CHECK.is("6 to 8", net.shortest(6, 8), 6);
        CHECK.is("5 to 5", net.shortest(5, 5), 0);
        net.kill(1, 0);
        CHECK.is("no way", net.shortest(0, 8), ChipNetwork.NONE);
        CHECK.is("lessons do not matter", net.shortest(0, 3), 1);
        needsNodes("shortest", 9, net::shortest);
    }

    // Promise 19
    private static void believed() {
        ChipNetwork net = nine();
        CHECK.is("dead links do not matter", net.believed(0, 1), 1);
        CHECK.is("0 to 3 round 1 and 4", net.believed(0, 3), 3);
        CHECK.is("only the first one's lessons", net.believed(3, 0), 1);
        CHECK.is("0 to 6, without 0-3 and 3-6", net.believed(0, 6), 4);
        CHECK.is("0 to 0", net.believed(0, 0), 0);
        net.tick(5);
        CHECK.is("lessons that do not hold", net.believed(0, 3), 1);
        CHECK.is("no way", Check.loaded("grid 2 1;lesson 0 0 east;").believed(0, 1), ChipNetwork.NONE);
        ChipNetwork ring = Check.loaded("grid 2 2;");
        CHECK.is("a cut ahead of it", ring.cut(0, 3), 2);
        CHECK.is("does not matter", ring.believed(0, 3), 2);
        needsNodes("believed", 9, net::believed);
    }

    // Promise 20
    private static void ways() {
        ChipNetwork net = nine();
        CHECK.is("0 hops, same", net.ways(4, 4, 0), 1);
        CHECK.is("0 hops, other", net.ways(4, 3, 0), 0);
        CHECK.is("no way comes back", net.ways(4, 4, 2), 0);
        CHECK.is("nor round", net.ways(4, 4, 4), 0);
        CHECK.is("dead", net.ways(0, 1, 1), 0);
        CHECK.is("0 3 4 1", net.ways(0, 1, 3), 1);
        CHECK.is("0 3 6 7 4 1", net.ways(0, 1, 5), 1);
        CHECK.is("hops of the other kind", net.ways(0, 1, 4), 0);
        CHECK.is("8 hops 6 to 8: 6 7 4 1 2 5 8 has 6, none has 8", net.ways(6, 8, 8), 0);
        CHECK.is("6 hops 6 to 8", net.ways(6, 8, 6), 2);
        ChipNetwork whole = Check.loaded("grid 6 6;");
        CHECK.is("8 hops over 8 apart", whole.ways(0, 28, 8), 70);
        CHECK.is("8 hops to a neighbour's neighbour", whole.ways(14, 21, 8), 72);
        CHECK.is("too few hops", whole.ways(0, 28, 7), 0);
        needsNodes("ways", 9, (from, to) -> net.ways(from, to, 1));
        CHECK.fails("hops 9", Check.NO_ARGUMENT, () -> net.ways(0, 0, 9));
        CHECK.fails("hops -1", Check.NO_ARGUMENT, () -> net.ways(0, 0, -1));
        CHECK.fails("nodes first", Check.NO_INDEX, () -> net.ways(0, 9, 9));
    }

    // Promise 21
    private static void parts() {
        ChipNetwork net = nine();
        CHECK.is("one", net.parts(), 1);
        net.kill(1, 0);
        CHECK.is("two", net.parts(), 2);
        net.kill(5, 3);
        CHECK.is("three", net.parts(), 3);
        net.mend(1, 0);
        CHECK.is("two again", net.parts(), 2);
        CHECK.is("all alone", Check.loaded("grid 3 1;dead 0 east;dead 1 east;").parts(), 3);
        CHECK.is("36 nodes in one", Check.loaded("grid 6 6;").parts(), 1);
    }

    // Promise 22
    private static void bridge() {
        ChipNetwork net = nine();
        int[] due = {1, 2, 3, 5, 11, ChipNetwork.NONE};
        for (int index = 0; index < due.length; index++) {
            CHECK.is("bridge " + index, net.bridge(index), due[index]);
        }
        net.kill(1, 0);
        CHECK.is("a dead link is none", net.bridge(1), 3);
        CHECK.is("asking leaves all as it was", net.bridge(0), 1);
        net.mend(0, 0);
        CHECK.is("in a ring there is none", net.bridge(0), 5);
        CHECK.is("link 0", Check.loaded("grid 2 1;").bridge(0), 0);
        CHECK.is("far index", net.bridge(Integer.MAX_VALUE), ChipNetwork.NONE);
        CHECK.fails("index -1", Check.NO_INDEX, () -> net.bridge(-1));
        CHECK.is("whole grid", Check.loaded("grid 6 6;").bridge(0), ChipNetwork.NONE);
    }

    // Promise 23
    private static void cut() {
        ChipNetwork net = nine();
        CHECK.is("0 to 8", net.cut(0, 8), 1);
        CHECK.is("3 to 7", net.cut(3, 7), 2);
        net.kill(1, 0);
        CHECK.is("no way", net.cut(0, 8), 0);
        CHECK.is("same", net.cut(4, 4), ChipNetwork.REFUSED);
        needsNodes("cut", 9, net::cut);
        ChipNetwork whole = Check.loaded("grid 6 6;");
        CHECK.is("corner", whole.cut(0, 21), 2);
        CHECK.is("border", whole.cut(14, 2), 3);
        CHECK.is("inside", whole.cut(7, 28), 4);
        CHECK.is("neighbours inside", whole.cut(14, 15), 4);
        CHECK.is("a way laid must be turned", Check.loaded("grid 3 3;dead 1 east;dead 4 north;").cut(5, 0), 2);
    }

    // Promise 24
    private static void farthest() {
        ChipNetwork net = nine();
        CHECK.is("from 0", net.farthest(0), 8);
        CHECK.is("from 8", net.farthest(8), 0);
        CHECK.is("from 4, with 4 hops", net.farthest(4), 8);
        net.kill(0, 1);
        CHECK.is("alone", net.farthest(0), 0);
        CHECK.is("lowest of several", Check.loaded("grid 3 3;").farthest(4), 0);
        CHECK.is("of these the lowest", Check.loaded("grid 3 1;").farthest(1), 0);
        CHECK.fails("no node", Check.NO_INDEX, () -> net.farthest(9));
        CHECK.fails("node -1", Check.NO_INDEX, () -> net.farthest(-1));
    }
}
