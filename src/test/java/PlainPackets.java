/** Sentences of the description and of promises 30 to 53 that name no boundary case. */
final class PlainPackets extends Bounds {
    PlainPackets(Book book) {
        super(book);
    }

    /** The packet of PlainNetwork, on its way from 0 to 3 by 0 1 5 6 2 3; it is at 3 at TIME 7, home at 12. */
    private static ChipNetwork journey(int ticks) {
        return PlainNetwork.journey(ticks);
    }

    /** Behind it 1, from 4 to 0 and back, told at 2; 2 finds link 12 dead at 7 and returns at 1. */
    private static ChipNetwork three(int ticks) {
        ChipNetwork net = journey(0);
        net.send(4, 0, 1);
        net.send(7, 4, 1);
        net.tick(ticks);
        return net;
    }

    @Override
    void run() {
        book.test(30, "Returns a property of a packet.", this::properties);
        book.test(31, "Returns a node of the TRAIL of a packet.", this::trail);
        book.test(32, "Tells whether a packet VISITED a node.", this::visited);
        book.test(33, "links that it found dead, each with the TIME.", this::found);
        book.test(35, "Counts the links in the MAP of a packet that are alive now.", this::healed);
        book.test(36, "Returns the DIRECTION that a packet would CHOOSE now.", this::choices);
        book.test(39, "Returns the packets in a state.", this::states);
        book.test(42, "Finds the node AT which the most packets in the states 0 to 2 are.", this::busiest);
        book.test(43, "Returns a node that no packet VISITED.", this::unvisited);
        book.test(44, "Forecasts the state of a packet behind some ticks.", this::forecast);
        book.test(45, "Forecasts how many ticks it takes until no packet is in the states 0 to 2.", this::quiet);
        book.test(49, "Returns the link that is in the most MAPs.", this::mostFound);
        book.test(51, "Returns a byte of the output.", this::bytes);
        book.test(52, "Reads a script from the input buffer and does it.", this::plays);
        book.test(52, "send NODE NODE LIMIT ;", this::sendCommand);
        book.test(52, "tick N ;", this::tickCommand);
        book.test(52, "kill NODE WAY ;", this::killCommand);
        book.test(52, "mend NODE WAY ;", this::mendCommand);
        book.test(52, "forget NODE ;", this::forgetCommand);
        book.test(53, "Undoes the latest call that can be undone.", this::undoes);
    }

    private void properties(int ticks, int... due) {
        ChipNetwork net = journey(ticks);
        for (int what = 0; what < due.length; what++) {
            is("property " + what + " at " + ticks, net.packet(0, what), due[what]);
        }
    }

    private void properties() {
        properties(0, 0, 3, 30, GOING, 0, 0, 1, 1, 0, 0, NONE);
        properties(5, 0, 3, 30, GOING, 6, 3, 4, 4, 2, 0, NONE);
        properties(9, 0, 3, 30, TELLING, 6, 5, 4, 6, 2, 0, NONE);
        properties(13, 0, 3, 30, TOLD, 0, 5, 1, 6, 2, 0, 12);
    }

    private void trail() {
        int[] due = {0, 1, 5, 6, 2, 3, NONE};
        ChipNetwork net = journey(7);
        for (int index = 0; index < due.length; index++) {
            is("node " + index, net.trail(0, index), due[index]);
        }
        net.tick(2);
        is("the end on the way back", net.trail(0, 3), 6);
        is("behind it", net.trail(0, 4), NONE);
    }

    private void visited() {
        ChipNetwork net = journey(7);
        for (int node = 0; node < 8; node++) {
            is("node " + node, net.isVisited(0, node), node != 4 && node != 7);
        }
    }

    private void found() {
        ChipNetwork net = journey(7);
        for (int link : new int[] {0, 1, 2, 3, 4, 5, 7, 8, 10, 12}) {
            is("link " + link, net.found(0, link), link == 2 ? 1 : link == 12 ? 4 : NONE);
        }
    }

    private void healed() {
        ChipNetwork net = journey(5);
        is("both dead", net.healed(0), 0);
        net.mend(2, 2);
        is("one mended", net.healed(0), 1);
        net.mend(7, 2);
        is("two mended", net.healed(0), 2);
        net.kill(1, 0);
        is("one killed", net.healed(0), 1);
        is("in the MAP", net.packet(0, 8), 2);
    }

    private void choices() {
        int[] due = {0, 0, 1, 0, 0, 3, 0, NONE};
        for (int time = 0; time < due.length; time++) {
            is("at " + time, journey(time).choice(0), due[time]);
        }
    }

    private void states() {
        int[][] due = {{5, 2, 0, 0, 0, 0}, {1, 2, 0, 0, 4, 0}, {1, 0, 0, 2, 4, 0}};
        for (int n = 0; n < due.length; n++) {
            ChipNetwork net = three(n + 1);
            for (int state = GOING; state <= LOST; state++) {
                is("in state " + state + " at " + (n + 1), net.packetsIn(state), due[n][state]);
            }
        }
    }

    private void busiest() {
        ChipNetwork net = loaded(PlainNetwork.EIGHT);
        net.send(6, 0, 9);
        net.send(5, 4, 9);
        net.send(5, 4, 9);
        is("two at 5", net.busiest(), 5);
        net.tick(1);
        is("two at 4, one at 5", net.busiest(), 4);
        net.tick(2);
        row("home", net, 1, TOLD, 5, 1);
        row("home as well", net, 2, TOLD, 5, 1);
        row("at its target", net, 0, TELLING, 0, 3);
        is("two are at 5, but only the one at 0 moves", net.busiest(), 0);
    }

    private void unvisited() {
        ChipNetwork net = journey(7);
        is("first", net.unvisited(0), 4);
        is("second", net.unvisited(1), 7);
        is("third", net.unvisited(2), NONE);
        net.send(7, 0, 9);
        is("then", net.unvisited(1), NONE);
    }

    private void forecast() {
        ChipNetwork net = journey(0);
        int[][] due = {{1, GOING}, {6, GOING}, {7, TELLING}, {12, TELLING}, {13, TOLD}, {500, TOLD}};
        for (int[] one : due) {
            is("behind " + one[0], net.stateIn(0, one[0]), one[1]);
        }
        row("nothing is done", net, 0, GOING, 0, 0);
        is("TIME", net.count(3), 0);
    }

    private void quiet() {
        for (int time = 0; time <= 13; time++) {
            is("at " + time, journey(time).quietIn(500), 13 - time);
        }
    }

    private void mostFound() {
        is("of 2 and 12", journey(5).mostFound(), 2);
        is("12 is in two", three(5).mostFound(), 12);
    }

    private void bytes() {
        ChipNetwork net = journey(7);
        is("bytes", net.write(0), 6);
        is("output", output(net), "0enese");
        is("first", net.outputByte(0), '0');
        is("last", net.outputByte(5), 'e');
        is("behind it", net.outputByte(6), NONE);
    }

    private void plays() {
        ChipNetwork net = loaded(PlainNetwork.EIGHT);
        is("commands", Check.played(net, "send 0 3 30;tick 7;kill 5 east;tick 3;"), 4);
        row("lost at the link that was killed", net, 0, LOST, 6, 5);
        is("the buffer", net.truncateInput(1), NONE);
    }

    private void sendCommand() {
        ChipNetwork net = loaded(PlainNetwork.EIGHT);
        is("commands", Check.played(net, "send 7 4 200;"), 1);
        is("SOURCE", net.packet(0, 0), 7);
        is("TARGET", net.packet(0, 1), 4);
        is("LIMIT", net.packet(0, 2), 200);
    }

    private void tickCommand() {
        ChipNetwork net = journey(0);
        is("commands", Check.played(net, "tick 6;tick 7;"), 2);
        is("as tick()", net.digest(), journey(13).digest());
    }

    private void killCommand() {
        ChipNetwork net = loaded(PlainNetwork.EIGHT);
        is("commands", Check.played(net, "kill 0 north;kill 3 west;kill 7 south;kill 4 east;"), 4);
        for (int link : new int[] {1, 4, 7, 8}) {
            is("link " + link, net.isDead(link), true);
        }
        is("dead links", net.count(5), 6);
    }

    private void mendCommand() {
        ChipNetwork net = loaded(PlainNetwork.EIGHT);
        is("commands", Check.played(net, "mend 7 west;mend 1 east;"), 2);
        is("dead links", net.count(5), 0);
    }

    private void forgetCommand() {
        ChipNetwork net = loaded(PlainNetwork.EIGHT);
        is("commands", Check.played(net, "forget 5;"), 1);
        is("lessons of 5", net.lessons(5), 0);
        is("lessons of 7", net.lessons(7), 1);
    }

    private void undoes() {
        ChipNetwork net = journey(0);
        int[] digests = {net.digest(), 0, 0, 0};
        net.tick(6);
        digests[1] = net.digest();
        net.kill(5, 0);
        digests[2] = net.digest();
        net.forget(5);
        digests[3] = net.digest();
        net.mend(5, 0);
        for (int n = 3; n >= 0; n--) {
            is("calls left", net.undo(), n + 1);
            is("as ahead of it", net.digest(), digests[n]);
        }
        is("the send", net.undo(), 0);
        is("packets", net.count(6), 0);
    }
}
