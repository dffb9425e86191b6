/** Boundary cases of promises 30 to 43: what packets are asked. */
final class PacketBounds extends Bounds {
    private static final String NO_PACKET = "IndexOutOfBoundsException if there is no such packet";

    PacketBounds(Book book) {
        super(book);
    }

    @Override
    void run() {
        properties();
        setsAndTrails();
        choices();
        sets();
    }

    private void properties() {
        book.test(30, "what: 0 SOURCE, 1 TARGET, 2 LIMIT", this::fixed);
        book.test(30, "3 its state, 4 AT, 5 HOPS", this::stateAndHops);
        book.test(30, "6 nodes of its TRAIL, 7 VISITED nodes, 8 links in its MAP", this::sizes);
        book.test(30, "0 going, 1 telling (on its way back, it has been at TARGET), 2 returning (on its way back, it has not),"
                + " 3 told (back at SOURCE from telling), 4 returned (back at SOURCE, it was not at TARGET), 5 lost", this::states);
        book.test(30, "9 TIME when it was sent", this::sentAt);
        book.test(30, "10 TIME when it came to its last state, as it was ahead of its last MOVE (NONE before)", this::endedAt);
        book.test(30, "Returns the value", this::fixed);
        book.test(30, "NONE for any other what", this::noProperty);
        book.test(30, NO_PACKET, () -> needsPacket(packet -> sent().packet(packet, 0)));
        book.test(31, "index: 0 for SOURCE, and so on", this::trails);
        book.test(31, "Returns the node", this::trails);
        book.test(31, "NONE if it has not so many", this::trailEnds);
        book.test(31, "IndexOutOfBoundsException if there is no such packet, or index is negative", this::noTrail);
    }

    private void setsAndTrails() {
        book.test(32, "Returns true if so.", this::visited);
        book.test(32, "the nodes that it VISITED (SOURCE at first)", this::visitedAtFirst);
        book.test(32, "IndexOutOfBoundsException if there is no such packet or node", this::noVisited);
        book.test(33, "Returns the TIME", this::found);
        book.test(33, "NONE if it is not in the MAP", this::notFound);
        book.test(33, "IndexOutOfBoundsException if there is no such packet or link", this::noFound);
        book.test(34, "from AT back to SOURCE, that is dead now", this::deadHomes);
        book.test(34, "Returns the link", this::deadHomes);
        book.test(34, "NONE if all are alive", this::noDeadHome);
        book.test(34, NO_PACKET, () -> needsPacket(sent()::deadHome));
        book.test(35, "Returns the number.", this::healed);
        book.test(35, NO_PACKET, () -> needsPacket(sent()::healed));
    }

    private void choices() {
        book.test(36, "Returns 0 to 3", this::allChoices);
        book.test(36, "NONE if there is none, or it is not going", this::noChoice);
        book.test(36, NO_PACKET, () -> needsPacket(sent()::choice));
        book.test(37, "way: 0 to 3, a DIRECTION", this::allWaysToReason);
        book.test(37, "the first of these reasons that holds", this::firstReason);
        book.test(37, "3 a lesson of AT that holds", this::reasonWhileItHolds);
        book.test(37, "Returns 1 there is no link, 2 the link is in its MAP, 3 a lesson of AT that holds, 4 the node is"
                + " VISITED, 5 another DIRECTION is better", this::allReasons);
        book.test(37, "0 if it would", this::allWaysToReason);
        book.test(37, "NONE if the packet is not going", this::noReason);
        book.test(37, NO_PACKET, () -> needsPacket(packet -> sent().reason(packet, 0)));
        book.test(37, "IllegalArgumentException if way is out of range",
                () -> noArgumentOutside(0, 3, "way", way -> sent().reason(0, way)));
        book.test(37, IN_ORDER, () -> noIndex("packet and way", () -> sent().reason(2, 4)));
        book.test(38, "way: 0 to 3, a DIRECTION", this::allCauses);
        book.test(38, "of 2 the TIME in the MAP, of 3 that of the lesson, of 5 the better DIRECTION", this::allCauses);
        book.test(38, "Returns the number", this::allCauses);
        book.test(38, "NONE for all others", this::noCause);
        book.test(38, NO_PACKET, () -> needsPacket(packet -> sent().cause(packet, 0)));
        book.test(38, "IllegalArgumentException if way is out of range",
                () -> noArgumentOutside(0, 3, "way", way -> sent().cause(0, way)));
        book.test(38, IN_ORDER, () -> noIndex("packet and way", () -> sent().cause(-1, -1)));
    }

    private void sets() {
        book.test(39, "state: 0 to 5", this::packetsInStates);
        book.test(39, "Returns the set, bit k for packet k.", this::bitsOfStates);
        book.test(39, "IllegalArgumentException if state is out of range",
                () -> noArgumentOutside(0, 5, "state", sent()::packetsIn));
        book.test(40, "that are AT a node in the states 0 to 2", this::packetsAt);
        book.test(40, "Returns the set, bit k for packet k.", this::bitsOfNodes);
        book.test(40, "IndexOutOfBoundsException if there is no such node",
                () -> noIndexFrom(6, "node", sent()::packetsAt));
        book.test(41, "Returns the packets whose TARGET is a node.", this::packetsTo);
        book.test(41, "Returns the set, bit k for packet k.", this::bitsOfTargets);
        book.test(41, "IndexOutOfBoundsException if there is no such node",
                () -> noIndexFrom(6, "node", sent()::packetsTo));
        book.test(42, "Returns the node, of several the lowest one", this::busiestOfSeveral);
        book.test(42, "NONE if there are no such packets", this::noBusiest);
        book.test(43, "index: 0 for the lowest such node, and so on", this::unvisitedNodes);
        book.test(43, "Returns the node", this::unvisitedNodes);
        book.test(43, "NONE if there are not so many", this::noUnvisited);
        book.test(43, "IndexOutOfBoundsException if index is negative", this::negativeUnvisited);
    }

    /** Two packets on 3 4 5 above 0 1 2, where 1-2 is dead; packet 0 has found it and stands at 4. */
    private static ChipNetwork sent() {
        ChipNetwork net = loaded("grid 3 2;stale 4;dead 1 east;");
        net.tick(2);
        net.send(0, 2, 9);
        net.tick(3);
        net.send(5, 0, 200);
        return net;
    }

    private void needsPacket(Call call) {
        noIndexFrom(2, "packet", call);
        noIndex("packet 23", () -> call.with(23));
        noIndex("packet 24", () -> call.with(24));
        noIndex("packet 25", () -> call.with(25));
    }

    private void fixed() {
        ChipNetwork net = sent();
        int[][] due = {{0, 2, 9}, {5, 0, 200}};
        for (int k = 0; k < 2; k++) {
            for (int what = 0; what < 3; what++) {
                is("packet " + k + " " + what, net.packet(k, what), due[k][what]);
            }
        }
    }

    private void stateAndHops() {
        ChipNetwork net = sent();
        row("underway", net, 0, GOING, 4, 2);
        row("at first", net, 1, GOING, 5, 0);
        net.tick(2);
        row("at TARGET", net, 0, TELLING, 2, 4);
        net.tick(5);
        row("told", net, 0, TOLD, 0, 4);
    }

    private void states() {
        ChipNetwork net = allStates();
        for (int k = 0; k <= 5; k++) {
            int[] due = {GOING, TELLING, RETURNING, TOLD, RETURNED, LOST};
            is("packet " + k, net.packet(k, 3), due[k]);
        }
        is("told, at SOURCE", net.packet(3, 4), 2);
        is("returned, at SOURCE", net.packet(4, 4), 11);
    }

    private void sizes() {
        ChipNetwork net = sent();
        int[] due = {3, 3, 1};
        int[] first = {1, 1, 0};
        for (int n = 0; n < 3; n++) {
            is("packet 0 " + (6 + n), net.packet(0, 6 + n), due[n]);
            is("packet 1 " + (6 + n), net.packet(1, 6 + n), first[n]);
        }
        net.tick(10);
        int[] then = {1, 5, 1};
        for (int n = 0; n < 3; n++) {
            is("packet 0 " + (6 + n) + " told", net.packet(0, 6 + n), then[n]);
        }
        ChipNetwork ends = loaded("grid 6 6;dead 34 east;");
        ends.send(34, 35, 9);
        ends.tick(1);
        is("the greatest link in the MAP", ends.packet(0, 8), 1);
        ChipNetwork least = loaded("grid 6 6;dead 0 east;");
        least.send(0, 1, 9);
        least.tick(1);
        is("the least link in the MAP", least.packet(0, 8), 1);
    }

    private void sentAt() {
        ChipNetwork net = sent();
        is("the first", net.packet(0, 9), 2);
        is("the second", net.packet(1, 9), 5);
        net.tick(50);
        is("later", net.packet(0, 9), 2);
        ChipNetwork zero = loaded("grid 2 1;");
        zero.send(0, 1, 1);
        is("sent at 0", zero.packet(0, 9), 0);
    }

    private void endedAt() {
        ChipNetwork net = sent();
        is("while it goes", net.packet(0, 10), NONE);
        net.tick(6);
        row("at SOURCE", net, 0, TELLING, 0, 4);
        is("while it tells", net.packet(0, 10), NONE);
        net.tick(1);
        row("told", net, 0, TOLD, 0, 4);
        is("TIME behind its last MOVE", net.count(3), 12);
        is("TIME ahead of it", net.packet(0, 10), 11);
        net.tick(9);
        is("later", net.packet(0, 10), 11);
        ChipNetwork none = loaded("grid 2 1;lesson 0 0 east;");
        none.send(0, 1, 9);
        none.tick(1);
        is("returned at 0", none.packet(0, 10), 0);
        ChipNetwork limited = loaded("grid 3 1;");
        limited.send(0, 2, 1);
        limited.tick(2);
        is("while it returns", limited.packet(0, 10), NONE);
        limited.undo();
        limited.tick(1);
        limited.kill(0, 0);
        limited.tick(1);
        is("lost at 1", limited.packet(0, 10), 1);
    }

    private void noProperty() {
        ChipNetwork net = sent();
        for (int what : new int[] {-1, 11, 12, LEAST, MOST}) {
            is("packet 0 " + what, net.packet(0, what), NONE);
        }
        noIndexFrom(2, "any other what, packet", packet -> net.packet(packet, 11));
    }

    private void trails() {
        ChipNetwork net = sent();
        int[] due = {0, 1, 4, NONE};
        for (int index = 0; index < due.length; index++) {
            is("trail " + index, net.trail(0, index), due[index]);
        }
        is("of the second packet", net.trail(1, 0), 5);
    }

    private void trailEnds() {
        ChipNetwork net = sent();
        is("the last one", net.trail(0, 2), 4);
        for (int index : new int[] {3, 4, 35, 36, 37, MOST}) {
            is("index " + index, net.trail(0, index), NONE);
        }
        is("SOURCE alone", net.trail(1, 1), NONE);
        net.tick(3);
        is("stepped back", net.trail(0, 3), 5);
        is("TARGET has gone", net.trail(0, 4), NONE);
    }

    private void noTrail() {
        ChipNetwork net = sent();
        needsPacket(packet -> net.trail(packet, 0));
        noIndex("index -1", () -> net.trail(0, -1));
        noIndex("the least index", () -> net.trail(1, LEAST));
        noIndexFrom(2, "far index, packet", packet -> net.trail(packet, 36));
    }

    private void visited() {
        ChipNetwork net = sent();
        boolean[] due = {true, true, false, false, true, false};
        for (int node = 0; node < due.length; node++) {
            is("node " + node, net.isVisited(0, node), due[node]);
        }
        net.tick(20);
        is("TARGET", net.isVisited(0, 2), true);
    }

    private void visitedAtFirst() {
        ChipNetwork net = loaded("grid 6 6;");
        int[] ends = {0, 31, 32, 35};
        for (int k = 0; k < ends.length; k++) {
            net.send(ends[k], 17, 9);
            for (int node = 0; node < 36; node++) {
                is("packet at " + ends[k] + ", node " + node, net.isVisited(k, node), node == ends[k]);
            }
        }
    }

    private void noVisited() {
        ChipNetwork net = sent();
        needsPacket(packet -> net.isVisited(packet, 0));
        noIndexFrom(6, "node", node -> net.isVisited(0, node));
    }

    private void found() {
        is("found at 3", sent().found(0, 2), 3);
        ChipNetwork net = loaded("grid 6 6;dead 0 east;dead 34 east;");
        net.send(0, 1, 9);
        net.send(34, 35, 9);
        net.tick(1);
        is("the least link, at 0", net.found(0, 0), 0);
        is("the greatest link, at 0", net.found(1, 68), 0);
        net.mend(0, 0);
        net.forget(0);
        is("mended and forgotten", net.found(0, 0), 0);
    }

    private void notFound() {
        ChipNetwork net = sent();
        is("a living link", net.found(0, 0), NONE);
        is("a dead link, another packet", net.found(1, 2), NONE);
        net.kill(5, 2);
        is("a dead link that it has not tried", net.found(0, 8), NONE);
    }

    private void noFound() {
        ChipNetwork net = sent();
        needsPacket(packet -> net.found(packet, 0));
        for (int link : new int[] {-1, 4, 7, 9, 10, 11, 12, 72, LEAST, MOST}) {
            noIndex("link " + link, () -> net.found(0, link));
        }
    }

    private void deadHomes() {
        ChipNetwork net = sent();
        net.kill(0, 0);
        is("the one at SOURCE", net.deadHome(0), 0);
        net.kill(1, 1);
        is("the one at AT", net.deadHome(0), 3);
        net.mend(0, 0);
        is("the one at AT alone", net.deadHome(0), 3);
        net.tick(20);
        row("lost", net, 0, LOST, 4, 4);
        is("of one that is lost", net.deadHome(0), 3);
        net.mend(1, 1);
        is("mended", net.deadHome(0), NONE);
    }

    private void noDeadHome() {
        ChipNetwork net = sent();
        is("though one beside the TRAIL is dead", net.deadHome(0), NONE);
        is("SOURCE alone", net.deadHome(1), NONE);
        net.kill(4, 0);
        is("though one ahead is dead", net.deadHome(0), NONE);
    }

    private void healed() {
        ChipNetwork net = sent();
        is("none of one", net.healed(0), 0);
        is("none of none", net.healed(1), 0);
        net.mend(1, 0);
        is("one of one", net.healed(0), 1);
        is("still none of none", net.healed(1), 0);
        net.kill(2, 2);
        is("dead again", net.healed(0), 0);
        ChipNetwork ends = loaded("grid 6 6;dead 0 east;dead 0 north;");
        ends.send(0, 1, 9);
        ends.tick(2);
        ends.mend(0, 0);
        is("the least link", ends.healed(0), 1);
        ends.mend(0, 1);
        is("two of two", ends.healed(0), 2);
    }

    private void allChoices() {
        ChipNetwork net = loaded("grid 3 3;");
        int[] targets = {5, 7, 3, 1};
        for (int way = 0; way < 4; way++) {
            is("to " + targets[way], net.choice(net.send(4, targets[way], 9)), way);
        }
        net.kill(4, 0);
        is("a dead link that it does not know", net.choice(0), 0);
    }

    private void noChoice() {
        ChipNetwork none = loaded("grid 2 1;lesson 0 0 east;");
        none.send(0, 1, 9);
        is("none", none.choice(0), NONE);
        ChipNetwork net = loaded("grid 6 1;");
        net.send(2, 3, 9);
        net.send(2, 4, 1);
        net.tick(1);
        is("telling", net.choice(0), NONE);
        is("returning", net.choice(1), NONE);
        net.tick(2);
        is("told", net.choice(0), NONE);
        is("returned", net.choice(1), NONE);
        net.send(2, 3, 9);
        net.tick(1);
        net.kill(2, 0);
        net.tick(1);
        row("lost", net, 2, LOST, 3, 1);
        is("lost", net.choice(2), NONE);
    }

    private void allWaysToReason() {
        ChipNetwork net = loaded("grid 3 3;");
        int[] targets = {5, 7, 3, 1};
        for (int k = 0; k < 4; k++) {
            net.send(4, targets[k], 9);
            for (int way = 0; way < 4; way++) {
                is("to " + targets[k] + " in " + way, net.reason(k, way), way == k ? 0 : 5);
            }
        }
    }

    /** At node 4 of nine: east a lesson, north VISITED, west in the MAP and a lesson, south free. */
    private static ChipNetwork mixed() {
        ChipNetwork net = loaded("grid 3 3;stale 9;dead 4 west;lesson 4 4 east;");
        net.send(7, 3, 30);
        net.kill(7, 2);
        net.tick(3);
        return net;
    }

    private void firstReason() {
        ChipNetwork net = mixed();
        is("MAP ahead of the lesson of the same link", net.reason(0, 2), 2);
        ChipNetwork back = loaded("grid 3 2;dead 1 east;dead 1 north;lesson 0 0 east;");
        back.tick(50);
        back.send(0, 2, 9);
        back.tick(4);
        is("VISITED", back.reason(0, 0), 4);
        ChipNetwork taught = loaded("grid 2 2;lesson 1 0 east;");
        taught.send(0, 3, 9);
        taught.tick(1);
        row("at 1", taught, 0, GOING, 1, 1);
        is("the lesson ahead of VISITED", taught.reason(0, 2), 3);
    }

    private void reasonWhileItHolds() {
        ChipNetwork net = loaded("grid 2 1;stale 3;lesson 0 0 east;");
        net.tick(2);
        net.send(0, 1, 9);
        is("at 2", net.reason(0, 0), 3);
        net.undo();
        net.tick(1);
        net.send(0, 1, 9);
        is("at 3", net.reason(0, 0), 0);
    }

    private void allReasons() {
        ChipNetwork net = mixed();
        is("AT", net.packet(0, 4), 4);
        int[] due = {3, 4, 2, 0};
        for (int way = 0; way < 4; way++) {
            is("in " + way, net.reason(0, way), due[way]);
        }
        net.send(0, 8, 9);
        int[] corner = {0, 5, 1, 1};
        for (int way = 0; way < 4; way++) {
            is("in a corner, in " + way, net.reason(1, way), corner[way]);
        }
    }

    private void noReason() {
        ChipNetwork net = loaded("grid 2 1;");
        net.send(0, 1, 9);
        net.tick(1);
        for (int way = 0; way < 4; way++) {
            is("telling, in " + way, net.reason(0, way), NONE);
        }
        net.tick(2);
        is("told", net.reason(0, 0), NONE);
        noArgument("way 4 all the same", () -> net.reason(0, 4));
    }

    private void allCauses() {
        ChipNetwork net = mixed();
        is("TIME of a lesson, 0", net.cause(0, 0), 0);
        is("TIME in the MAP", net.cause(0, 2), 2);
        net.send(4, 1, 9);
        is("TIME of a lesson that was found", net.cause(1, 2), 2);
        is("the better DIRECTION, 3", net.cause(1, 1), 3);
        net.send(0, 8, 9);
        is("the better DIRECTION, 0", net.cause(2, 1), 0);
    }

    private void noCause() {
        ChipNetwork net = mixed();
        is("of 4", net.cause(0, 1), NONE);
        is("of 0", net.cause(0, 3), NONE);
        net.send(0, 8, 9);
        is("of 1", net.cause(1, 2), NONE);
        is("of 1 too", net.cause(1, 3), NONE);
        net.send(4, 1, 9);
        net.tick(1);
        row("telling", net, 2, TELLING, 1, 1);
        is("not going", net.cause(2, 0), NONE);
    }

    /** A packet in each state, with the number of its state. */
    private static ChipNetwork allStates() {
        ChipNetwork net = loaded("grid 6 2;lesson 11 11 west;lesson 11 11 south;");
        net.send(0, 5, 9);
        net.send(1, 4, 9);
        net.send(5, 0, 3);
        net.send(2, 3, 9);
        net.send(11, 0, 9);
        net.send(6, 8, 9);
        net.tick(2);
        net.kill(7, 0);
        net.tick(2);
        return net;
    }

    private static ChipNetwork with24() {
        ChipNetwork net = loaded("grid 3 2;");
        for (int k = 0; k < 24; k++) {
            net.send(k % 2 * 5, 2, 9);
        }
        return net;
    }

    private void packetsInStates() {
        ChipNetwork net = allStates();
        for (int state = 0; state <= 5; state++) {
            is("state " + state, net.packetsIn(state), 1 << state);
            is("of a new object", new ChipNetwork().packetsIn(state), 0);
        }
    }

    private void bitsOfStates() {
        ChipNetwork net = with24();
        is("all 24", net.packetsIn(0), 0xffffff);
        net.tick(1);
        is("telling", net.packetsIn(1), 0xaaaaaa);
        is("going", net.packetsIn(0), 0x555555);
    }

    private void packetsAt() {
        ChipNetwork net = allStates();
        is("going", net.packetsAt(net.packet(0, 4)), 1);
        is("telling and returning", net.packetsAt(3), 6);
        is("told", net.packetsAt(2), 0);
        is("returned", net.packetsAt(11), 0);
        is("lost", net.packetsAt(net.packet(5, 4)), 0);
    }

    private void bitsOfNodes() {
        ChipNetwork net = with24();
        is("at 0", net.packetsAt(0), 0x555555);
        is("at the last node", net.packetsAt(5), 0xaaaaaa);
        is("at 1", net.packetsAt(1), 0);
    }

    private void packetsTo() {
        ChipNetwork net = allStates();
        int[] due = {0b010100, 0, 0, 0b001000, 0b000010, 0b000001, 0, 0, 0b100000, 0, 0, 0};
        for (int node = 0; node < due.length; node++) {
            is("to " + node, net.packetsTo(node), due[node]);
        }
        net.tick(100);
        is("all at their ends", net.packetsTo(0), 0b010100);
    }

    private void bitsOfTargets() {
        ChipNetwork net = with24();
        is("all 24", net.packetsTo(2), 0xffffff);
        is("none", net.packetsTo(5), 0);
    }

    private void busiestOfSeveral() {
        ChipNetwork net = loaded("grid 3 2;");
        net.send(5, 0, 9);
        is("the last node", net.busiest(), 5);
        net.send(3, 2, 9);
        is("alike", net.busiest(), 3);
        net.send(5, 0, 9);
        is("the most", net.busiest(), 5);
        net.send(0, 5, 9);
        net.send(0, 5, 9);
        is("node 0", net.busiest(), 0);
    }

    private void noBusiest() {
        is("a new object", new ChipNetwork().busiest(), NONE);
        ChipNetwork net = loaded("grid 2 1;");
        net.send(0, 1, 9);
        net.tick(2);
        is("one that tells", net.busiest(), 0);
        net.tick(1);
        is("one that is told", net.busiest(), NONE);
    }

    private void unvisitedNodes() {
        ChipNetwork net = sent();
        int[] due = {2, 3, NONE};
        for (int index = 0; index < due.length; index++) {
            is("unvisited " + index, net.unvisited(index), due[index]);
        }
        ChipNetwork all = loaded("grid 6 6;");
        all.send(17, 0, 9);
        for (int index = 0; index < 35; index++) {
            is("unvisited " + index + " of 36", all.unvisited(index), index < 17 ? index : index + 1);
        }
    }

    private void noUnvisited() {
        ChipNetwork net = loaded("grid 2 1;");
        is("the last one", net.unvisited(1), 1);
        is("one more", net.unvisited(2), NONE);
        is("the greatest", net.unvisited(MOST), NONE);
        net.send(0, 1, 9);
        net.tick(1);
        is("all VISITED", net.unvisited(0), NONE);
        net.tick(9);
        is("also when it is told", net.unvisited(0), NONE);
        ChipNetwork all = loaded("grid 6 6;");
        is("the 36th", all.unvisited(35), 35);
        is("a 37th", all.unvisited(36), NONE);
    }

    private void negativeUnvisited() {
        for (int index : new int[] {-1, LEAST}) {
            noIndex("index " + index, () -> sent().unvisited(index));
            noIndex("of one node, index " + index, () -> new ChipNetwork().unvisited(index));
        }
    }
}
