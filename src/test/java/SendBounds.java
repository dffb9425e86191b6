/** Boundary cases of promises 25, 27 and 28: send, kill, mend; and of tick's own number and TIME (26). */
final class SendBounds extends Bounds {
    SendBounds(Book book) {
        super(book);
    }

    @Override
    void run() {
        book.test(25, "are numbered from 0 in the order in which they are sent", this::numbers);
        book.test(25, "a TARGET (another node)", this::sameNodes);
        book.test(25, "limit: 1 to 200, LIMIT", this::limits);
        book.test(25, "HOPS (0 at first)", this::atFirst);
        book.test(25, "Returns its number", this::numbers);
        book.test(25, "REFUSED if both nodes are the same", this::sameNodes);
        book.test(25, "FULL if there are 24 packets", this::full);
        book.test(25, "PACKETS, at most 24", this::atMost24);
        book.test(25, "IndexOutOfBoundsException if there is no node with one of these numbers", this::noNodes);
        book.test(25, "IllegalArgumentException if limit is out of range",
                () -> noArgumentOutside(1, 200, "limit", limit -> loaded("grid 3 2;").send(0, 1, limit)));
        book.test(25, IN_ORDER, this::sendInOrder);
        book.test(25, AHEAD_OF_CODES, this::sendAheadOfCodes);
        book.test(26, "ticks: 1 to 500", this::ticks);
        book.test(26, "Returns TIME then", this::timeThen);
        book.test(26, "FULL if it would be greater than 30000", this::timeIsFull);
        book.test(26, "TIME is a number of ticks, 0 at first, at most 30000", this::timeAtTheEnd);
        book.test(26, "IllegalArgumentException if ticks is out of range",
                () -> noArgumentOutside(1, 500, "ticks", new ChipNetwork()::tick));
        book.test(26, AHEAD_OF_CODES, this::ticksAheadOfCodes);
        book.test(27, "way: 0 to 3, a DIRECTION", this::killsInAllDirections);
        book.test(27, "Returns the number of dead links then", this::killsAll);
        book.test(27, "REFUSED if there is no such link, or it is dead", this::killRefuses);
        book.test(27, "IndexOutOfBoundsException if there is no such node",
                () -> noIndexFrom(6, "node", node -> loaded("grid 3 2;").kill(node, 0)));
        book.test(27, "IllegalArgumentException if way is out of range",
                () -> noArgumentOutside(0, 3, "way", way -> loaded("grid 3 2;").kill(0, way)));
        book.test(27, IN_ORDER, () -> noIndex("node and way", () -> loaded("grid 3 2;").kill(6, 4)));
        book.test(28, "way: 0 to 3, a DIRECTION", this::mendsInAllDirections);
        book.test(28, "Lessons and MAPs stay.", this::lessonsAndMapsStay);
        book.test(28, "Returns the number of dead links then", this::mendsAll);
        book.test(28, "REFUSED if there is no such link, or it is alive", this::mendRefuses);
        book.test(28, "IndexOutOfBoundsException if there is no such node",
                () -> noIndexFrom(6, "node", node -> loaded("grid 3 2;").mend(node, 0)));
        book.test(28, "IllegalArgumentException if way is out of range",
                () -> noArgumentOutside(0, 3, "way", way -> loaded("grid 3 2;").mend(0, way)));
        book.test(28, IN_ORDER, () -> noIndex("node and way", () -> loaded("grid 3 2;").mend(-1, -1)));
    }

    private static ChipNetwork with24() {
        ChipNetwork net = loaded("grid 2 1;");
        for (int k = 0; k < 24; k++) {
            net.send(0, 1, 5);
        }
        return net;
    }

    private static ChipNetwork at(int time) {
        ChipNetwork net = loaded("grid 2 1;");
        while (net.count(3) < time) {
            net.tick(Math.min(500, time - net.count(3)));
        }
        return net;
    }

    private void numbers() {
        ChipNetwork net = loaded("grid 6 6;");
        for (int k = 0; k < 24; k++) {
            is("packet " + k, net.send(k, 35, 5), k);
        }
        is("SOURCE of the first", net.packet(0, 0), 0);
        is("SOURCE of the last", net.packet(23, 0), 23);
        net.undo();
        is("the number of one undone is free", net.send(30, 2, 5), 23);
        is("SOURCE of that", net.packet(23, 0), 30);
    }

    private void sameNodes() {
        ChipNetwork net = loaded("grid 6 6;");
        is("the first node", net.send(0, 0, 5), REFUSED);
        is("the last node", net.send(35, 35, 200), REFUSED);
        is("packets", net.count(6), 0);
        is("calls to undo", net.count(11), 0);
        is("one node", new ChipNetwork().send(0, 0, 1), REFUSED);
    }

    private void limits() {
        ChipNetwork net = loaded("grid 6 6;");
        is("1", net.send(0, 35, 1), 0);
        is("200", net.send(35, 0, 200), 1);
        is("LIMIT 1", net.packet(0, 2), 1);
        is("LIMIT 200", net.packet(1, 2), 200);
    }

    private void atFirst() {
        ChipNetwork net = loaded("grid 6 6;");
        net.tick(3);
        net.send(35, 0, 7);
        int[] due = {35, 0, 7, GOING, 35, 0, 1, 1, 0, 3, NONE};
        for (int what = 0; what < due.length; what++) {
            is("packet 0 " + what, net.packet(0, what), due[what]);
        }
        is("SOURCE is VISITED", net.isVisited(0, 35), true);
        is("TARGET is not", net.isVisited(0, 0), false);
        is("SOURCE is the TRAIL", net.trail(0, 0), 35);
        is("no more is", net.trail(0, 1), NONE);
    }

    private void full() {
        ChipNetwork net = with24();
        is("a 25th", net.send(0, 1, 5), FULL);
        is("again", net.send(1, 0, 5), FULL);
        is("packets", net.count(6), 24);
        noIndex("packet 24", () -> net.packet(24, 0));
        is("same nodes come first", net.send(1, 1, 5), REFUSED);
    }

    private void atMost24() {
        ChipNetwork net = with24();
        net.tick(9);
        is("all are told", net.packetsIn(TOLD), 0xffffff);
        is("and stay packets", net.send(0, 1, 5), FULL);
        net.undo();
        net.undo();
        is("23 leave room", net.send(0, 1, 5), 23);
        is("for one", net.send(0, 1, 5), FULL);
    }

    private void noNodes() {
        ChipNetwork net = loaded("grid 3 2;");
        noIndexFrom(6, "source", node -> net.send(node, 0, 5));
        noIndexFrom(6, "target", node -> net.send(0, node, 5));
        is("the last node as target", net.send(0, 5, 5), 0);
        is("the last node as source", net.send(5, 0, 5), 1);
    }

    private void sendInOrder() {
        ChipNetwork net = loaded("grid 3 2;");
        noIndex("source ahead of limit", () -> net.send(6, 0, 0));
        noIndex("target ahead of limit", () -> net.send(0, -1, 201));
    }

    private void sendAheadOfCodes() {
        ChipNetwork net = with24();
        noIndex("same nodes that there are not", () -> net.send(2, 2, 5));
        noArgument("same nodes, limit", () -> net.send(1, 1, 0));
        noArgument("24 packets, limit", () -> net.send(0, 1, 201));
    }

    private void ticks() {
        ChipNetwork net = loaded("grid 6 1;");
        net.send(0, 5, 9);
        is("1", net.tick(1), 1);
        row("behind one", net, 0, GOING, 1, 1);
        is("500", net.tick(500), 501);
        row("behind 500", net, 0, TOLD, 0, 5);
    }

    private void timeThen() {
        ChipNetwork net = new ChipNetwork();
        is("first", net.tick(7), 7);
        is("second", net.tick(3), 10);
        is("TIME", net.count(3), 10);
    }

    private void timeIsFull() {
        is("1 at 29999", at(29999).tick(1), 30000);
        is("2 at 29999", at(29999).tick(2), FULL);
        is("500 at 29500", at(29500).tick(500), 30000);
        is("500 at 29501", at(29501).tick(500), FULL);
        is("499 at 29501", at(29501).tick(499), 30000);
        ChipNetwork net = at(29990);
        net.send(0, 1, 5);
        is("11 at 29990", net.tick(11), FULL);
        is("TIME stays", net.count(3), 29990);
        row("then", net, 0, GOING, 0, 0);
    }

    private void timeAtTheEnd() {
        ChipNetwork net = at(30000);
        is("TIME", net.count(3), 30000);
        is("1", net.tick(1), FULL);
        is("500", net.tick(500), FULL);
        is("TIME stays", net.count(3), 30000);
        is("a packet can still be sent", net.send(0, 1, 5), 0);
        is("at", net.packet(0, 9), 30000);
    }

    private void ticksAheadOfCodes() {
        ChipNetwork net = at(30000);
        noArgument("0", () -> net.tick(0));
        noArgument("501", () -> net.tick(501));
        noArgument("the greatest", () -> net.tick(MOST));
    }

    private void killsInAllDirections() {
        int[] due = {8, 9, 6, 3};
        for (int way = 0; way < 4; way++) {
            ChipNetwork net = loaded("grid 3 3;");
            net.kill(4, way);
            for (int link : due) {
                is("link " + link + " of 4, killed in " + way, net.isDead(link), link == due[way]);
            }
        }
    }

    private void killsAll() {
        ChipNetwork net = loaded("grid 2 2;");
        is("first", net.kill(0, 0), 1);
        is("second", net.kill(0, 1), 2);
        is("third", net.kill(3, 2), 3);
        is("fourth", net.kill(3, 3), 4);
        is("the last node of the greatest grid", loaded("grid 6 6;").kill(35, 3), 1);
    }

    private void killRefuses() {
        ChipNetwork net = loaded("grid 2 2;dead 0 east;");
        is("no link east", net.kill(1, 0), REFUSED);
        is("no link north", net.kill(2, 1), REFUSED);
        is("no link west", net.kill(2, 2), REFUSED);
        is("no link south", net.kill(1, 3), REFUSED);
        is("dead", net.kill(0, 0), REFUSED);
        is("dead from the other side", net.kill(1, 2), REFUSED);
        is("dead links", net.count(5), 1);
        is("calls to undo", net.count(11), 0);
    }

    private void mendsInAllDirections() {
        int[] due = {8, 9, 6, 3};
        for (int way = 0; way < 4; way++) {
            ChipNetwork net = loaded("grid 3 3;dead 4 east;dead 4 north;dead 4 west;dead 4 south;");
            net.mend(4, way);
            for (int link : due) {
                is("link " + link + " of 4, mended in " + way, net.isDead(link), link != due[way]);
            }
        }
    }

    private void lessonsAndMapsStay() {
        ChipNetwork net = loaded("grid 2 2;dead 0 east;lesson 3 0 east;");
        net.send(0, 1, 9);
        net.tick(1);
        net.mend(0, 0);
        is("lesson that was found", net.lesson(0, 0), 0);
        is("lesson of the text", net.lesson(3, 0), 0);
        is("MAP", net.found(0, 0), 0);
        is("it does not go there", net.reason(0, 0), 2);
    }

    private void mendsAll() {
        ChipNetwork net = loaded("grid 2 2;dead 0 east;dead 0 north;dead 3 west;dead 3 south;");
        is("first", net.mend(0, 0), 3);
        is("second", net.mend(0, 1), 2);
        is("third", net.mend(3, 2), 1);
        is("fourth", net.mend(3, 3), 0);
    }

    private void mendRefuses() {
        ChipNetwork net = loaded("grid 2 2;dead 0 east;");
        is("no link east", net.mend(1, 0), REFUSED);
        is("no link north", net.mend(2, 1), REFUSED);
        is("no link west", net.mend(2, 2), REFUSED);
        is("no link south", net.mend(1, 3), REFUSED);
        is("alive", net.mend(0, 1), REFUSED);
        is("alive from the other side", net.mend(2, 3), REFUSED);
        is("dead links", net.count(5), 1);
        is("calls to undo", net.count(11), 0);
    }
}
