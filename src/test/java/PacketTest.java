/** Promises 30 to 43: what packets are asked. */
public final class PacketTest {
    private static final Check CHECK = new Check("PacketTest");

    public static void main(String[] args) {
        packet();
        trail();
        isVisited();
        found();
        deadHome();
        healed();
        choice();
        reason();
        cause();
        packetsIn();
        packetsAt();
        packetsTo();
        busiest();
        unvisited();
        CHECK.end();
    }

    private interface Question {
        void of(int packet);
    }

    private static void needsPacket(String what, ChipNetwork net, Question question) {
        CHECK.fails(what + ": no packet", Check.NO_INDEX, () -> question.of(net.count(6)));
        CHECK.fails(what + ": packet -1", Check.NO_INDEX, () -> question.of(-1));
        CHECK.fails(what + ": packet 24", Check.NO_INDEX, () -> question.of(24));
    }

    /** 6 7 8 above 3 4 5 above 0 1 2, without 0-1 and 3-4; packet 0 from 0 to 1, sent at 2, goes 0 3 6 7 4. */
    private static ChipNetwork underway() {
        ChipNetwork net = Check.loaded("grid 3 3;stale 4;dead 0 east;dead 3 east;");
        net.tick(2);
        net.send(0, 1, 30);
        net.tick(6);
        return net;
    }

    // Promise 30
    private static void packet() {
        ChipNetwork net = underway();
        int[] due = {0, 1, 30, 0, 4, 4, 5, 5, 2, 2, ChipNetwork.NONE};
        for (int what = 0; what < due.length; what++) {
            CHECK.is("packet 0 " + what, net.packet(0, what), due[what]);
        }
        CHECK.is("what 11", net.packet(0, 11), ChipNetwork.NONE);
        CHECK.is("what -1", net.packet(0, -1), ChipNetwork.NONE);
        net.tick(7);
        int[] then = {0, 1, 30, 3, 0, 5, 1, 6, 2, 2, 14};
        for (int what = 0; what < then.length; what++) {
            CHECK.is("packet 0 " + what + " told", net.packet(0, what), then[what]);
        }
        needsPacket("packet", net, k -> net.packet(k, 0));
        needsPacket("packet, other what", net, k -> net.packet(k, 99));
    }

    // Promise 31
    private static void trail() {
        ChipNetwork net = underway();
        int[] due = {0, 3, 6, 7, 4, ChipNetwork.NONE};
        for (int index = 0; index < due.length; index++) {
            CHECK.is("trail " + index, net.trail(0, index), due[index]);
        }
        CHECK.is("far index", net.trail(0, Integer.MAX_VALUE), ChipNetwork.NONE);
        net.tick(2);
        CHECK.is("stepped back to 4", net.trail(0, 4), 4);
        CHECK.is("the end has gone", net.trail(0, 5), ChipNetwork.NONE);
        CHECK.fails("index -1", Check.NO_INDEX, () -> net.trail(0, -1));
        needsPacket("trail", net, k -> net.trail(k, 0));
    }

    // Promise 32
    private static void isVisited() {
        ChipNetwork net = underway();
        boolean[] due = {true, false, false, true, true, false, true, true, false};
        for (int node = 0; node < 9; node++) {
            CHECK.is("visited " + node, net.isVisited(0, node), due[node]);
        }
        net.tick(8);
        CHECK.is("TARGET stays visited", net.isVisited(0, 1), true);
        CHECK.fails("no node", Check.NO_INDEX, () -> net.isVisited(0, 9));
        CHECK.fails("node -1", Check.NO_INDEX, () -> net.isVisited(0, -1));
        needsPacket("isVisited", net, k -> net.isVisited(k, 0));
        ChipNetwork far = Check.loaded("grid 6 6;");
        far.send(35, 0, 9);
        CHECK.is("node 35", far.isVisited(0, 35), true);
        CHECK.is("node 3, 32 less", far.isVisited(0, 3), false);
    }

    // Promise 33
    private static void found() {
        ChipNetwork net = underway();
        CHECK.is("link 0", net.found(0, 0), 2);
        CHECK.is("link 6", net.found(0, 6), 4);
        CHECK.is("another dead one", net.kill(7, 0), 3);
        CHECK.is("is not found yet", net.found(0, 14), ChipNetwork.NONE);
        net.forget(0);
        net.mend(0, 0);
        CHECK.is("stays", net.found(0, 0), 2);
        CHECK.fails("no link", Check.NO_INDEX, () -> net.found(0, 4));
        CHECK.fails("link -1", Check.NO_INDEX, () -> net.found(0, -1));
        CHECK.fails("link 18", Check.NO_INDEX, () -> net.found(0, 18));
        needsPacket("found", net, k -> net.found(k, 0));
    }

    // Promise 34
    private static void deadHome() {
        ChipNetwork net = underway();
        CHECK.is("all alive, though 0-1 is dead", net.deadHome(0), ChipNetwork.NONE);
        net.kill(0, 1);
        CHECK.is("the link at SOURCE", net.deadHome(0), 1);
        net.kill(6, 0);
        CHECK.is("one that is nearer", net.deadHome(0), 12);
        net.kill(4, 1);
        CHECK.is("the link at AT", net.deadHome(0), 9);
        net.mend(4, 1);
        net.mend(6, 0);
        CHECK.is("mended", net.deadHome(0), 1);
        net.tick(20);
        CHECK.is("lost ahead of it", net.packet(0, 3), 5);
        CHECK.is("also one that is lost", net.deadHome(0), 1);
        net.send(8, 2, 5);
        CHECK.is("SOURCE alone", net.deadHome(1), ChipNetwork.NONE);
        needsPacket("deadHome", net, net::deadHome);
    }

    // Promise 35
    private static void healed() {
        ChipNetwork net = underway();
        CHECK.is("none", net.healed(0), 0);
        net.mend(0, 0);
        CHECK.is("one", net.healed(0), 1);
        net.mend(3, 0);
        CHECK.is("two", net.healed(0), 2);
        net.kill(0, 0);
        CHECK.is("one again", net.healed(0), 1);
        net.send(8, 2, 5);
        CHECK.is("no MAP", net.healed(1), 0);
        needsPacket("healed", net, net::healed);
    }

    // Promise 36
    private static void choice() {
        ChipNetwork net = underway();
        CHECK.is("south to TARGET", net.choice(0), 3);
        net.kill(4, 3);
        CHECK.is("it does not know that this is dead", net.choice(0), 3);
        net.tick(1);
        CHECK.is("now it does", net.choice(0), 0);
        net.tick(20);
        CHECK.is("not going", net.choice(0), ChipNetwork.NONE);
        ChipNetwork early = Check.loaded("grid 4 1;");
        early.send(1, 2, 9);
        early.tick(1);
        CHECK.is("telling, though there is a node ahead", early.choice(0), ChipNetwork.NONE);
        ChipNetwork none = Check.loaded("grid 2 1;lesson 0 0 east;");
        none.send(0, 1, 5);
        CHECK.is("none", none.choice(0), ChipNetwork.NONE);
        needsPacket("choice", net, net::choice);
    }

    /** At node 4 of nine: east a lesson, north VISITED, west in the MAP, south free. */
    private static ChipNetwork allReasons() {
        ChipNetwork net = Check.loaded("grid 3 3;stale 9;dead 4 west;lesson 4 4 east;");
        net.send(7, 3, 30);
        net.kill(7, 2);
        net.tick(3);
        return net;
    }

    // Promise 37
    private static void reason() {
        ChipNetwork net = allReasons();
        CHECK.is("at node 4", net.packet(0, 4), 4);
        CHECK.is("a lesson", net.reason(0, 0), 3);
        CHECK.is("visited", net.reason(0, 1), 4);
        CHECK.is("the MAP is ahead of the lesson", net.reason(0, 2), 2);
        CHECK.is("it would", net.reason(0, 3), 0);
        CHECK.is("a packet without MAP", net.send(4, 1, 3), 1);
        CHECK.is("is told of it by the lesson", net.reason(1, 2), 3);
        CHECK.is("another one is better", net.reason(1, 1), 5);
        CHECK.is("it would too", net.reason(1, 3), 0);
        net.send(0, 8, 9);
        CHECK.is("no link west", net.reason(2, 2), 1);
        CHECK.is("no link south", net.reason(2, 3), 1);
        CHECK.is("of two that are alike the first", net.reason(2, 0), 0);
        CHECK.is("not the second", net.reason(2, 1), 5);
        net.tick(1);
        CHECK.is("not going", net.reason(1, 0), ChipNetwork.NONE);
        net.tick(5);
        CHECK.is("lessons of 0 do not hold at 9", net.count(3), 9);
        net.send(4, 5, 9);
        CHECK.is("it would", net.reason(3, 0), 0);
        CHECK.fails("way 4", Check.NO_ARGUMENT, () -> net.reason(0, 4));
        CHECK.fails("way -1", Check.NO_ARGUMENT, () -> net.reason(0, -1));
        needsPacket("reason", net, k -> net.reason(k, 4));
    }

    // Promise 38
    private static void cause() {
        ChipNetwork net = allReasons();
        CHECK.is("TIME of the lesson", net.cause(0, 0), 0);
        CHECK.is("nothing behind 4", net.cause(0, 1), ChipNetwork.NONE);
        CHECK.is("TIME in the MAP", net.cause(0, 2), 2);
        CHECK.is("nothing behind 0", net.cause(0, 3), ChipNetwork.NONE);
        net.send(4, 1, 3);
        CHECK.is("TIME of a lesson that was found", net.cause(1, 2), 2);
        CHECK.is("the better one", net.cause(1, 1), 3);
        net.send(0, 8, 9);
        CHECK.is("nothing behind 1", net.cause(2, 2), ChipNetwork.NONE);
        CHECK.is("the better one is the first one", net.cause(2, 1), 0);
        net.tick(1);
        CHECK.is("not going", net.cause(1, 2), ChipNetwork.NONE);
        CHECK.fails("way 4", Check.NO_ARGUMENT, () -> net.cause(0, 4));
        CHECK.fails("way -1", Check.NO_ARGUMENT, () -> net.cause(0, -1));
        needsPacket("cause", net, k -> net.cause(k, 4));
    }

    /** Packets of all states: 0 going, 1 telling, 2 returning, 3 told, 4 returned, 5 lost. */
    private static ChipNetwork allStates() {
        ChipNetwork net = Check.loaded("grid 6 2;lesson 11 11 west;lesson 11 11 south;");
        net.send(0, 5, 9);
        net.send(1, 4, 9);
        net.send(5, 0, 3);
        net.send(2, 3, 9);
        net.send(11, 0, 9);
        net.send(6, 8, 9);
        net.tick(2);
        net.kill(7, 0);
        net.tick(2);
        return net;
    }

    // Promise 39
    private static void packetsIn() {
        ChipNetwork net = allStates();
        for (int state = 0; state < 6; state++) {
            CHECK.is("packets in " + state, net.packetsIn(state), 1 << state);
        }
        CHECK.fails("state 6", Check.NO_ARGUMENT, () -> net.packetsIn(6));
        CHECK.fails("state -1", Check.NO_ARGUMENT, () -> net.packetsIn(-1));
        net.tick(50);
        CHECK.is("told", net.packetsIn(3), 0b001011);
        CHECK.is("going", net.packetsIn(0), 0);
        ChipNetwork many = Check.loaded("grid 2 1;");
        for (int k = 0; k < 24; k++) {
            many.send(0, 1, 1);
        }
        CHECK.is("all 24", many.packetsIn(0), 0xffffff);
    }

    // Promise 40
    private static void packetsAt() {
        ChipNetwork net = allStates();
        CHECK.is("going at 4", net.packetsAt(4), 0b000001);
        CHECK.is("telling and returning at 3", net.packetsAt(3), 0b000110);
        CHECK.is("told at 2", net.packetsAt(2), 0);
        CHECK.is("lost at 8", net.packetsAt(8), 0);
        CHECK.is("returned at 11", net.packetsAt(11), 0);
        CHECK.fails("no node", Check.NO_INDEX, () -> net.packetsAt(12));
        CHECK.fails("node -1", Check.NO_INDEX, () -> net.packetsAt(-1));
    }

    // Promise 41
    private static void packetsTo() {
        ChipNetwork net = allStates();
        CHECK.is("to 0", net.packetsTo(0), 0b010100);
        CHECK.is("to 5, packet 0", net.packetsTo(5), 0b000001);
        CHECK.is("to 3, told", net.packetsTo(3), 0b001000);
        CHECK.is("to 8, lost", net.packetsTo(8), 0b100000);
        CHECK.is("to 2", net.packetsTo(2), 0);
        CHECK.fails("no node", Check.NO_INDEX, () -> net.packetsTo(12));
        CHECK.fails("node -1", Check.NO_INDEX, () -> net.packetsTo(-1));
    }

    // Promise 42
    private static void busiest() {
        ChipNetwork net = allStates();
        CHECK.is("two at 3", net.busiest(), 3);
        net.tick(50);
        CHECK.is("none in these states", net.busiest(), ChipNetwork.NONE);
        net.send(9, 0, 5);
        net.send(7, 0, 5);
        CHECK.is("the lowest of several", net.busiest(), 7);
        net.send(9, 0, 5);
        CHECK.is("the most", net.busiest(), 9);
        net.send(0, 5, 5);
        net.send(0, 5, 5);
        CHECK.is("node 0", net.busiest(), 0);
    }

    // Promise 43
    private static void unvisited() {
        ChipNetwork net = underway();
        int[] due = {1, 2, 5, 8, ChipNetwork.NONE};
        for (int index = 0; index < due.length; index++) {
            CHECK.is("unvisited " + index, net.unvisited(index), due[index]);
        }
        net.send(2, 1, 5);
        CHECK.is("a second packet", net.unvisited(1), 5);
        CHECK.is("far index", net.unvisited(Integer.MAX_VALUE), ChipNetwork.NONE);
        CHECK.fails("index -1", Check.NO_INDEX, () -> net.unvisited(-1));
        ChipNetwork far = Check.loaded("grid 6 6;");
        far.send(0, 35, 9);
        CHECK.is("node 32", far.unvisited(31), 32);
        CHECK.is("node 35", far.unvisited(34), 35);
        CHECK.is("no more", far.unvisited(35), ChipNetwork.NONE);
    }
}
