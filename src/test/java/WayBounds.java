/** Boundary cases of promises 17 to 24: questions of ways. */
final class WayBounds extends Bounds {
    private static final String NO_NODE = "IndexOutOfBoundsException if there is no node with one of these numbers";

    WayBounds(Book book) {
        super(book);
    }

    @Override
    void run() {
        book.test(17, "the absolute difference of their columns plus that of their rows", this::allDistances);
        book.test(17, "Returns the number.", this::distances);
        book.test(17, NO_NODE, () -> needsNodes(nine()::distance));
        book.test(18, "Returns the number", this::shortestWays);
        book.test(18, "0 if both are the same", this::shortestToItself);
        book.test(18, "NONE if there is no way", this::noShortest);
        book.test(18, NO_NODE, () -> needsNodes(nine()::shortest));
        book.test(19, "(whether they are alive or not)", this::believedOverDead);
        book.test(19, "that the first node does not say to be dead", this::believedOfTheFirst);
        book.test(19, "by lessons that hold", this::believedWhileItHolds);
        book.test(19, "Returns likewise.", this::believedToItselfAndNowhere);
        book.test(19, NO_NODE, () -> needsNodes(nine()::believed));
        book.test(20, "hops: 0 to 8", this::waysOfAllHops);
        book.test(20, "on which no node comes twice", this::waysWithoutNodesTwice);
        book.test(20, "Returns the number (with 0 hops 1 if both are the same, otherwise 0).", this::waysOfNoHops);
        book.test(20, "over links that are alive", this::waysOverLivingLinks);
        book.test(20, NO_NODE, () -> needsNodes((from, to) -> nine().ways(from, to, 1)));
        book.test(20, "IllegalArgumentException if hops is out of range",
                () -> noArgumentOutside(0, 8, "hops", hops -> nine().ways(0, 0, hops)));
        book.test(20, IN_ORDER, this::waysInOrder);
        book.test(21, "Returns the number.", this::parts);
        book.test(22, "index: 0 for the lowest such link, and so on", this::bridges);
        book.test(22, "of those that are alive", this::bridgesThatLive);
        book.test(22, "Returns the link", this::bridgesAtTheEnds);
        book.test(22, "NONE if there are not so many", this::noBridges);
        book.test(22, "IndexOutOfBoundsException if index is negative", this::negativeBridge);
        book.test(23, "Returns the number (0 if there is no way)", this::cuts);
        book.test(23, "REFUSED if both are the same", this::cutOfItself);
        book.test(23, NO_NODE, () -> needsNodes(nine()::cut));
        book.test(24, "Returns the node, of several the lowest one", this::farthestOfSeveral);
        book.test(24, "(the node itself if there is no way to another one)", this::farthestAlone);
        book.test(24, "IndexOutOfBoundsException if there is no such node",
                () -> noIndexFrom(9, "node", nine()::farthest));
    }

    /** 6 7 8 above 3 4 5 above 0 1 2; without 0-1, 4-5 and 7-8; node 0 does not trust 0-3 and 3-6. */
    private static ChipNetwork nine() {
        return loaded("grid 3 3;stale 5;dead 0 east;dead 4 east;dead 8 west;lesson 0 0 north;lesson 0 3 north;");
    }

    private interface Question {
        int of(int from, int to);
    }

    private void needsNodes(Question question) {
        noIndexFrom(9, "from", node -> question.of(node, 0));
        noIndexFrom(9, "to", node -> question.of(0, node));
        noIndexFrom(9, "both", node -> question.of(node, node));
    }

    private void allDistances() {
        ChipNetwork net = loaded("grid 4 3;");
        for (int from = 0; from < 12; from++) {
            for (int to = 0; to < 12; to++) {
                int due = Math.abs(from % 4 - to % 4) + Math.abs(from / 4 - to / 4);
                is(from + " to " + to, net.distance(from, to), due);
            }
        }
    }

    private void distances() {
        ChipNetwork net = loaded("grid 6 6;");
        is("itself", net.distance(35, 35), 0);
        is("corners", net.distance(0, 35), 10);
        is("corners back", net.distance(35, 0), 10);
        is("other corners", net.distance(5, 30), 10);
        is("other corners back", net.distance(30, 5), 10);
        is("end of a row to the next row", net.distance(5, 6), 6);
        is("a row", loaded("grid 6 1;").distance(5, 0), 5);
        is("a column", loaded("grid 1 6;").distance(0, 5), 5);
        is("dead links do not count", nine().distance(0, 1), 1);
    }

    private void shortestWays() {
        ChipNetwork net = nine();
        is("neighbours", net.shortest(0, 3), 1);
        is("round a dead link", net.shortest(0, 1), 3);
        is("back", net.shortest(1, 0), 3);
        is("round two", net.shortest(6, 8), 6);
        StringBuilder comb = new StringBuilder("grid 6 6;");
        for (int row = 0; row < 5; row++) {
            for (int column = 0; column < 6; column++) {
                if (column != (row % 2 == 0 ? 5 : 0)) {
                    comb.append("dead ").append(6 * row + column).append(" north;");
                }
            }
        }
        is("through all nodes", loaded(comb.toString()).shortest(0, 30), 35);
    }

    private void shortestToItself() {
        ChipNetwork net = nine();
        for (int node = 0; node < 9; node++) {
            is("from " + node, net.shortest(node, node), 0);
        }
        is("in one node", new ChipNetwork().shortest(0, 0), 0);
    }

    private void noShortest() {
        ChipNetwork net = loaded("grid 3 1;dead 1 east;");
        is("to 2", net.shortest(0, 2), NONE);
        is("from 2", net.shortest(2, 0), NONE);
        is("ahead of it", net.shortest(0, 1), 1);
        net.mend(1, 0);
        is("mended", net.shortest(0, 2), 2);
    }

    private void believedOverDead() {
        ChipNetwork net = nine();
        is("over a dead link", net.believed(0, 1), 1);
        is("over another one", net.believed(7, 8), 1);
        is("not over a living one that is said to be dead", net.believed(0, 3), 3);
    }

    private void believedOfTheFirst() {
        ChipNetwork net = nine();
        is("from the node that says so", net.believed(0, 6), 4);
        is("to it", net.believed(6, 0), 2);
        ChipNetwork ring = loaded("grid 2 2;");
        is("a cut", ring.cut(0, 3), 2);
        is("takes no way from it", ring.believed(0, 3), 2);
    }

    private void believedWhileItHolds() {
        ChipNetwork net = nine();
        net.tick(4);
        is("at 4", net.believed(0, 3), 3);
        net.tick(1);
        is("at 5", net.believed(0, 3), 1);
    }

    private void believedToItselfAndNowhere() {
        ChipNetwork net = loaded("grid 2 1;lesson 0 0 east;");
        is("itself", net.believed(0, 0), 0);
        is("no way", net.believed(0, 1), NONE);
        is("itself, the other one", net.believed(1, 1), 0);
        is("its way", net.believed(1, 0), 1);
    }

    private void waysOfAllHops() {
        ChipNetwork net = loaded("grid 6 6;");
        int[] due = {0, 1, 0, 1, 0, 2, 0, 6, 0};
        for (int hops = 0; hops <= 8; hops++) {
            is(hops + " hops to a neighbour", net.ways(0, 1, hops), due[hops]);
        }
        is("2 hops, also by node 0", net.ways(1, 6, 2), 2);
        is("2 hops, also by the last node", net.ways(34, 29, 2), 2);
        is("1 hop to node 0", net.ways(6, 0, 1), 1);
        is("8 hops to a node 8 apart", net.ways(0, 28, 8), 70);
        is("7 hops to it", net.ways(0, 28, 7), 0);
        is("8 hops to a node 9 apart", net.ways(0, 29, 8), 0);
        is("8 hops to a node 10 apart", net.ways(0, 35, 8), 0);
    }

    private void waysWithoutNodesTwice() {
        ChipNetwork net = loaded("grid 3 3;");
        for (int hops = 1; hops <= 8; hops++) {
            is(hops + " hops to itself", net.ways(4, 4, hops), 0);
        }
        is("all nine nodes, corner to corner", net.ways(0, 8, 8), 2);
        is("not through the target", loaded("grid 2 1;").ways(0, 1, 3), 0);
    }

    private void waysOfNoHops() {
        ChipNetwork net = nine();
        is("same", net.ways(8, 8, 0), 1);
        is("neighbours", net.ways(8, 5, 0), 0);
        is("one node", new ChipNetwork().ways(0, 0, 0), 1);
        is("one node, 1 hop", new ChipNetwork().ways(0, 0, 1), 0);
    }

    private void waysOverLivingLinks() {
        ChipNetwork net = nine();
        is("a dead link", net.ways(0, 1, 1), 0);
        is("round it", net.ways(0, 1, 3), 1);
        net.mend(0, 0);
        is("mended", net.ways(0, 1, 1), 1);
        is("lessons do not count", net.ways(0, 3, 1), 1);
    }

    private void waysInOrder() {
        noIndex("from ahead of hops", () -> nine().ways(9, 0, 9));
        noIndex("to ahead of hops", () -> nine().ways(0, -1, -1));
    }

    private void parts() {
        is("one node", new ChipNetwork().parts(), 1);
        is("36 nodes", loaded("grid 6 6;").parts(), 1);
        ChipNetwork net = loaded("grid 3 1;");
        net.kill(0, 0);
        is("one link dead", net.parts(), 2);
        net.kill(1, 0);
        is("all links dead", net.parts(), 3);
        is("a ring without one", loaded("grid 2 2;dead 0 east;").parts(), 1);
        is("a ring without two", loaded("grid 2 2;dead 0 east;dead 3 west;").parts(), 2);
        is("the last node alone", loaded("grid 6 6;dead 35 west;dead 35 south;").parts(), 2);
        is("the first node alone", loaded("grid 6 6;dead 0 east;dead 0 north;").parts(), 2);
    }

    private void bridges() {
        ChipNetwork net = nine();
        int[] due = {1, 2, 3, 5, 11, NONE};
        for (int index = 0; index < due.length; index++) {
            is("bridge " + index, net.bridge(index), due[index]);
        }
    }

    private void bridgesThatLive() {
        ChipNetwork net = loaded("grid 3 1;dead 0 east;");
        is("the one that lives", net.bridge(0), 2);
        is("not the dead one", net.bridge(1), NONE);
        net.mend(0, 0);
        is("mended", net.bridge(0), 0);
    }

    private void bridgesAtTheEnds() {
        is("the least link", loaded("grid 2 1;").bridge(0), 0);
        is("the greatest link", loaded("grid 6 6;dead 35 south;").bridge(0), 68);
        is("in a column", loaded("grid 1 6;").bridge(4), 9);
    }

    private void noBridges() {
        is("one node", new ChipNetwork().bridge(0), NONE);
        is("a ring", loaded("grid 2 2;").bridge(0), NONE);
        ChipNetwork net = nine();
        is("the last one", net.bridge(4), 11);
        for (int index : new int[] {5, 36, 72, MOST}) {
            is("bridge " + index, net.bridge(index), NONE);
        }
    }

    private void negativeBridge() {
        for (int index : new int[] {-1, LEAST}) {
            noIndex("bridge " + index, () -> nine().bridge(index));
            noIndex("of one node, bridge " + index, () -> new ChipNetwork().bridge(index));
        }
    }

    private void cuts() {
        ChipNetwork net = loaded("grid 6 6;");
        is("of a corner", net.cut(0, 35), 2);
        is("of a border", net.cut(1, 21), 3);
        is("inside", net.cut(7, 28), 4);
        is("neighbours inside", net.cut(14, 15), 4);
        is("neighbours in a corner", net.cut(0, 1), 2);
        ChipNetwork row = loaded("grid 3 1;dead 1 east;");
        is("one link", row.cut(0, 1), 1);
        is("no way", row.cut(0, 2), 0);
        is("no way back", row.cut(2, 0), 0);
        is("the second way turns a part of the first one",
                loaded("grid 3 3;dead 1 east;dead 4 north;").cut(5, 0), 2);
    }

    private void cutOfItself() {
        is("4", nine().cut(4, 4), REFUSED);
        is("one node", new ChipNetwork().cut(0, 0), REFUSED);
        noIndex("no node is looked at first", () -> nine().cut(9, 9));
    }

    private void farthestOfSeveral() {
        ChipNetwork net = loaded("grid 3 3;");
        is("four corners", net.farthest(4), 0);
        is("two corners", net.farthest(1), 6);
        is("one corner, the last node", net.farthest(0), 8);
        is("one corner, the first node", net.farthest(8), 0);
        is("a row", loaded("grid 6 1;").farthest(0), 5);
        is("the middle of a row", loaded("grid 3 1;").farthest(1), 0);
        is("over living links alone", loaded("grid 3 1;dead 1 east;").farthest(0), 1);
        is("not the node that is far but near by links", nine().farthest(4), 8);
    }

    private void farthestAlone() {
        is("one node", new ChipNetwork().farthest(0), 0);
        ChipNetwork net = loaded("grid 3 1;dead 1 east;");
        is("the last node", net.farthest(2), 2);
        is("a node that is not alone", net.farthest(1), 0);
    }
}
