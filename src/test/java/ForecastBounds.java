/** Boundary cases of promises 44 to 49: forecasts, meanHops, mostFound. */
final class ForecastBounds extends Bounds {
    private static final String ON_A_COPY = "Forecasts let ticks go by on a copy, also beyond the TIME 30000.";
    private static final String NO_NODE = "IndexOutOfBoundsException if there is no node with one of these numbers";

    ForecastBounds(Book book) {
        super(book);
    }

    @Override
    void run() {
        book.test(44, "ticks: 1 to 500", this::statesInTicks);
        book.test(44, "Returns the state.", this::allStates);
        book.test(44, ON_A_COPY, this::stateInOnACopy);
        book.test(44, "IndexOutOfBoundsException if there is no such packet",
                () -> noIndexFrom(2, "packet", packet -> row().stateIn(packet, 1)));
        book.test(44, "IllegalArgumentException if ticks is out of range",
                () -> noArgumentOutside(1, 500, "ticks", ticks -> row().stateIn(0, ticks)));
        book.test(44, IN_ORDER, () -> noIndex("packet and ticks", () -> row().stateIn(2, 501)));
        book.test(45, "ticks: 1 to 500, how many are looked at", this::quietInTicks);
        book.test(45, "Returns the number (0 if it is so now)", this::quietNow);
        book.test(45, "NONE if so many are not enough", this::notQuiet);
        book.test(45, ON_A_COPY, this::quietInOnACopy);
        book.test(45, "IllegalArgumentException if ticks is out of range",
                () -> noArgumentOutside(1, 500, "ticks", row()::quietIn));
        book.test(46, "limit: 1 to 200", this::fatesOfLimits);
        book.test(46, "behind all others (also if there are 24 of them)", this::fateBehindAll);
        book.test(46, "Returns 3 to 5", this::allFates);
        book.test(46, "NONE if it has none behind 500 ticks", this::longestFate);
        book.test(46, "REFUSED if both nodes are the same", this::fateOfSameNodes);
        book.test(46, ON_A_COPY, this::fateOnACopy);
        book.test(46, NO_NODE, this::fateOfNoNode);
        book.test(46, "IllegalArgumentException if limit is out of range",
                () -> noArgumentOutside(1, 200, "limit", limit -> row().fate(0, 1, limit)));
        book.test(46, IN_ORDER, () -> noIndex("target and limit", () -> row().fate(0, 4, 201)));
        book.test(46, AHEAD_OF_CODES, this::fateAheadOfCodes);
        book.test(47, "Returns 1 to 200", this::leastLimits);
        book.test(47, "the least LIMIT, likewise, with which this last state would be 3", this::leastLimitLikewise);
        book.test(47, "NONE if there is none", this::noLeastLimit);
        book.test(47, "REFUSED if both nodes are the same", this::leastLimitOfSameNodes);
        book.test(47, ON_A_COPY, this::leastLimitOnACopy);
        book.test(47, NO_NODE, this::leastLimitOfNoNode);
        book.test(48, "Returns their HOPS together divided by their number, both converted to double.", this::means);
        book.test(48, "the packets in the state 3", this::meanOfThoseTold);
        book.test(48, "ArithmeticException if there are none", this::noMean);
        book.test(49, "Returns the link, of several the lowest one", this::mostFoundOfSeveral);
        book.test(49, "NONE if it is in none", this::noMostFound);
    }

    /** 0 1 2 3; packet 0 from 0 to 3, told in 7; packet 1 from 3 to 0 with LIMIT 2, returned in 5. */
    private static ChipNetwork row() {
        ChipNetwork net = loaded("grid 4 1;");
        net.send(0, 3, 9);
        net.send(3, 0, 2);
        return net;
    }

    private static ChipNetwork lastTime(String text) {
        ChipNetwork net = loaded(text);
        for (int n = 0; n < 60; n++) {
            net.tick(500);
        }
        return net;
    }

    /** Rows that are gone along one by one: 36 nodes on the way. */
    private static String comb() {
        StringBuilder text = new StringBuilder("grid 6 6;");
        for (int row = 0; row < 5; row++) {
            for (int column = 0; column < 6; column++) {
                if (column != (row % 2 == 0 ? 5 : 0)) {
                    text.append("dead ").append(6 * row + column).append(" north;");
                }
            }
        }
        return text.toString();
    }

    private void statesInTicks() {
        ChipNetwork net = row();
        is("in 1", net.stateIn(0, 1), GOING);
        is("in 2", net.stateIn(0, 2), GOING);
        is("in 3", net.stateIn(0, 3), TELLING);
        is("in 6", net.stateIn(0, 6), TELLING);
        is("in 7", net.stateIn(0, 7), TOLD);
        is("in 500", net.stateIn(0, 500), TOLD);
        ChipNetwork near = loaded("grid 2 1;");
        near.send(0, 1, 9);
        is("a neighbour in 1", near.stateIn(0, 1), TELLING);
    }

    private void allStates() {
        ChipNetwork net = row();
        is("returning", net.stateIn(1, 2), RETURNING);
        is("still", net.stateIn(1, 4), RETURNING);
        is("returned", net.stateIn(1, 5), RETURNED);
        net.tick(3);
        net.kill(0, 0);
        is("telling", net.stateIn(0, 2), TELLING);
        is("lost", net.stateIn(0, 3), LOST);
        net.tick(3);
        is("lost already", net.stateIn(0, 1), LOST);
    }

    private void stateInOnACopy() {
        ChipNetwork net = row();
        int digest = net.digest();
        net.stateIn(0, 500);
        is("digest", net.digest(), digest);
        is("TRAIL", net.packet(0, 6), 1);
        is("calls to undo", net.count(11), 2);
        ChipNetwork last = lastTime("grid 4 1;");
        last.send(0, 3, 9);
        is("beyond 30000, in 6", last.stateIn(0, 6), TELLING);
        is("beyond 30000, in 7", last.stateIn(0, 7), TOLD);
        is("TIME", last.count(3), 30000);
    }

    private void quietInTicks() {
        ChipNetwork net = loaded("grid 2 1;lesson 0 0 east;");
        net.send(0, 1, 9);
        is("1 is enough", net.quietIn(1), 1);
        is("500 are too", net.quietIn(500), 1);
        is("of the later one of two", row().quietIn(500), 7);
    }

    private void quietNow() {
        is("a new object", new ChipNetwork().quietIn(1), 0);
        is("a new object, 500", new ChipNetwork().quietIn(500), 0);
        ChipNetwork net = row();
        net.tick(6);
        is("not yet", net.quietIn(1), 1);
        net.tick(1);
        is("all at their ends", net.quietIn(1), 0);
    }

    private void notQuiet() {
        ChipNetwork net = row();
        is("8", net.quietIn(8), 7);
        is("7", net.quietIn(7), 7);
        is("6", net.quietIn(6), NONE);
        is("1", net.quietIn(1), NONE);
    }

    private void quietInOnACopy() {
        ChipNetwork net = row();
        int digest = net.digest();
        net.quietIn(500);
        net.quietIn(3);
        is("digest", net.digest(), digest);
        is("calls to undo", net.count(11), 2);
        ChipNetwork last = lastTime("grid 4 1;");
        last.send(0, 3, 9);
        is("beyond 30000", last.quietIn(500), 7);
        is("TIME", last.count(3), 30000);
    }

    private void fatesOfLimits() {
        ChipNetwork net = loaded("grid 3 1;");
        is("1 hop with LIMIT 1", net.fate(0, 1, 1), TOLD);
        is("2 hops with LIMIT 1", net.fate(0, 2, 1), RETURNED);
        is("2 hops with LIMIT 2", net.fate(0, 2, 2), TOLD);
        is("2 hops with LIMIT 200", net.fate(0, 2, 200), TOLD);
    }

    /** Alone it comes to node 2 when the lesson there is stale; told of 0-1 by another one, a tick too early. */
    private void fateBehindAll() {
        ChipNetwork full = loaded("grid 2 1;");
        for (int k = 0; k < 24; k++) {
            full.send(0, 1, 5);
        }
        is("a 25th", full.fate(0, 1, 5), TOLD);
        is("a 25th again", full.fate(1, 0, 5), TOLD);
        is("packets", full.count(6), 24);
        noIndex("packet 24", () -> full.packet(24, 0));
        ChipNetwork net = loaded("grid 2 2;stale 2;dead 0 east;lesson 2 2 east;");
        is("alone", net.fate(0, 3, 9), TOLD);
        net.send(0, 3, 9);
        is("behind another one", net.fate(0, 3, 9), RETURNED);
        is("that one", net.stateIn(0, 20), TOLD);
    }

    private void allFates() {
        ChipNetwork net = loaded("grid 3 1;lesson 2 1 east;");
        is("told", net.fate(0, 1, 9), TOLD);
        is("returned, no way", net.fate(2, 0, 9), RETURNED);
        is("returned, LIMIT", net.fate(0, 2, 1), RETURNED);
        is("one node to itself has none", new ChipNetwork().fate(0, 0, 9), REFUSED);
    }

    /** No packet is known to take 500 ticks: each link and each node costs it a tick, or two. */
    private void longestFate() {
        ChipNetwork net = loaded(comb());
        is("all nodes, all dead links", net.fate(30, 0, 200), TOLD);
        is("LIMIT short by a hop", net.fate(30, 0, 34), RETURNED);
        StringBuilder all = new StringBuilder("grid 6 6;");
        for (int node = 0; node < 36; node++) {
            all.append(node % 6 < 5 && node != 0 ? "dead " + node + " east;" : "");
            all.append(node < 30 ? "dead " + node + " north;" : "");
        }
        is("one link alive", loaded(all.toString()).fate(0, 35, 200), RETURNED);
    }

    private void fateOfSameNodes() {
        ChipNetwork net = row();
        is("the first node", net.fate(0, 0, 1), REFUSED);
        is("the last node", net.fate(3, 3, 200), REFUSED);
    }

    private void fateOnACopy() {
        ChipNetwork net = row();
        int digest = net.digest();
        net.fate(1, 3, 9);
        is("digest", net.digest(), digest);
        is("packets", net.count(6), 2);
        is("calls to undo", net.count(11), 2);
        is("the next one's number", net.send(1, 3, 9), 2);
        ChipNetwork last = lastTime("grid 4 1;");
        is("beyond 30000", last.fate(0, 3, 9), TOLD);
        is("TIME", last.count(3), 30000);
    }

    private void fateOfNoNode() {
        ChipNetwork net = row();
        noIndexFrom(4, "source", node -> net.fate(node, 0, 1));
        noIndexFrom(4, "target", node -> net.fate(0, node, 1));
        noIndexFrom(4, "both", node -> net.fate(node, node, 1));
    }

    private void fateAheadOfCodes() {
        noArgument("same nodes, limit 0", () -> row().fate(1, 1, 0));
        noArgument("same nodes, limit 201", () -> row().fate(1, 1, 201));
    }

    private void leastLimits() {
        ChipNetwork net = loaded("grid 6 6;");
        is("a neighbour", net.leastLimit(0, 1), 1);
        is("corners", net.leastLimit(0, 35), 10);
        is("all nodes", loaded(comb()).leastLimit(30, 0), 35);
        ChipNetwork deadEnd = loaded("grid 3 2;dead 1 east;dead 1 north;");
        is("with a step back", deadEnd.leastLimit(0, 2), 6);
        is("that LIMIT", deadEnd.fate(0, 2, 6), TOLD);
        is("one less", deadEnd.fate(0, 2, 5), RETURNED);
    }

    private void leastLimitLikewise() {
        ChipNetwork full = loaded("grid 3 1;");
        for (int k = 0; k < 24; k++) {
            full.send(0, 1, 5);
        }
        is("a 25th", full.leastLimit(0, 2), 2);
        ChipNetwork net = loaded("grid 2 2;stale 2;dead 0 east;lesson 2 2 east;");
        is("alone", net.leastLimit(0, 3), 2);
        net.send(0, 3, 9);
        is("behind another one", net.leastLimit(0, 3), NONE);
    }

    private void noLeastLimit() {
        is("dead", loaded("grid 2 1;dead 0 east;").leastLimit(0, 1), NONE);
        is("a lesson", loaded("grid 2 1;lesson 0 0 east;").leastLimit(0, 1), NONE);
        is("the other way", loaded("grid 2 1;lesson 0 0 east;").leastLimit(1, 0), 1);
    }

    private void leastLimitOfSameNodes() {
        ChipNetwork net = row();
        is("the first node", net.leastLimit(0, 0), REFUSED);
        is("the last node", net.leastLimit(3, 3), REFUSED);
    }

    private void leastLimitOnACopy() {
        ChipNetwork net = row();
        int digest = net.digest();
        net.leastLimit(0, 3);
        is("digest", net.digest(), digest);
        is("packets", net.count(6), 2);
        is("calls to undo", net.count(11), 2);
        ChipNetwork last = lastTime("grid 4 1;");
        is("beyond 30000", last.leastLimit(0, 3), 3);
        is("TIME", last.count(3), 30000);
    }

    private void leastLimitOfNoNode() {
        ChipNetwork net = row();
        noIndexFrom(4, "from", node -> net.leastLimit(node, 0));
        noIndexFrom(4, "to", node -> net.leastLimit(0, node));
        noIndexFrom(4, "both", node -> net.leastLimit(node, node));
    }

    private void means() {
        ChipNetwork net = loaded("grid 6 1;");
        net.send(0, 1, 9);
        net.send(0, 2, 9);
        net.tick(20);
        is("3 / 2", net.meanHops() == 1.5, true);
        net.send(0, 2, 9);
        net.tick(20);
        is("5 / 3", net.meanHops() == 5.0 / 3.0, true);
        ChipNetwork all = loaded("grid 6 1;");
        for (int k = 0; k < 24; k++) {
            all.send(0, k == 0 ? 4 : 5, 9);
        }
        all.tick(20);
        is("119 / 24", all.meanHops() == 119.0 / 24.0, true);
    }

    private void meanOfThoseTold() {
        ChipNetwork net = loaded("grid 6 1;");
        net.send(0, 1, 9);
        net.send(0, 5, 9);
        net.send(0, 5, 2);
        net.tick(3);
        row("told", net, 0, TOLD, 0, 1);
        is("one going, one returning", net.meanHops() == 1.0, true);
        net.tick(3);
        row("returned", net, 2, RETURNED, 0, 2);
        is("one telling, one returned", net.meanHops() == 1.0, true);
        net.kill(0, 0);
        net.tick(9);
        row("lost", net, 1, LOST, 1, 5);
        is("one lost", net.meanHops() == 1.0, true);
    }

    private void noMean() {
        book.fails("a new object", ArithmeticException.class, () -> new ChipNetwork().meanHops());
        ChipNetwork net = loaded("grid 6 1;");
        net.send(0, 5, 1);
        net.send(0, 1, 9);
        net.tick(2);
        book.fails("one back at SOURCE and telling", ArithmeticException.class, () -> net.meanHops());
        net.tick(1);
        is("told", net.meanHops() == 1.0, true);
    }

    private void mostFoundOfSeveral() {
        ChipNetwork net = loaded("grid 3 2;dead 0 east;dead 3 east;dead 1 east;");
        net.send(3, 5, 9);
        net.tick(1);
        is("the only one", net.mostFound(), 6);
        net.send(1, 2, 9);
        net.tick(1);
        is("alike", net.mostFound(), 2);
        net.forget(3);
        net.send(3, 5, 9);
        net.tick(1);
        is("the most", net.mostFound(), 6);
        net.mend(3, 0);
        is("also when it is alive", net.mostFound(), 6);
        ChipNetwork ends = loaded("grid 6 6;dead 34 east;dead 0 east;");
        ends.send(34, 35, 9);
        ends.tick(1);
        is("the greatest link", ends.mostFound(), 68);
        ends.send(0, 1, 9);
        ends.tick(1);
        is("the least link", ends.mostFound(), 0);
    }

    private void noMostFound() {
        is("a new object", new ChipNetwork().mostFound(), NONE);
        ChipNetwork net = loaded("grid 2 2;dead 0 east;");
        net.send(2, 3, 9);
        net.tick(9);
        is("no link found", net.mostFound(), NONE);
    }
}
