/** Boundary cases of promises 1 and 7 to 10: a new object, count, link, isDead, end. */
final class NetworkBounds extends Bounds {
    NetworkBounds(Book book) {
        super(book);
    }

    @Override
    void run() {
        book.test(1, "Creates a network of one node.", this::oneNode);
        book.test(1, "(1 to 6 each; 1 at first)", this::sizeAtFirst);
        book.test(1, "TIME is a number of ticks, 0 at first", this::timeAtFirst);
        book.test(1, "(1 to 1000; 50 at first)", () -> is("STALE", new ChipNetwork().count(2), 50));
        book.test(7, "what: 0 WIDTH, 1 HEIGHT, 2 STALE, 3 TIME", this::countSettings);
        book.test(7, "4 links, 5 dead links", this::countLinks);
        book.test(7, "6 packets, 7 packets in the states 0 to 2", this::countPackets);
        book.test(7, "8 lessons that hold, of all nodes together, 9 of these those whose links are alive", this::countLessons);
        book.test(7, "10 HOPS of all packets together", this::countHops);
        book.test(7, "11 calls that can be undone", this::countUndo);
        book.test(7, "Returns the number", this::countOfNewObject);
        book.test(7, "NONE for any other what", this::countOther);
        book.test(8, "way: 0 to 3, a DIRECTION", this::directions);
        book.test(8, "0 east (x + 1), 1 north (y + 1), 2 west (x - 1), 3 south (y - 1)", this::noWayRound);
        book.test(8, "twice the number of the node with the lesser number, plus 1 if it goes north from that one",
                this::directions);
        book.test(8, "it has one number from both sides", this::bothSides);
        book.test(8, "Returns its number", this::linkNumbers);
        book.test(8, "NONE if there is none", this::noLink);
        book.test(8, "IndexOutOfBoundsException if there is no such node", this::linkOfNoNode);
        book.test(8, "IllegalArgumentException if way is out of range", this::linkOfNoWay);
        book.test(8, IN_ORDER, () -> noIndex("node and way", () -> loaded("grid 3 2;").link(6, 4)));
        book.test(9, "A link is alive or dead (alive at first).", this::aliveAtFirst);
        book.test(9, "Returns true if so.", this::deadOrAlive);
        book.test(9, "IndexOutOfBoundsException if there is no such link", this::isDeadOfNoLink);
        book.test(10, "isGreater: true for the node with the greater number", this::greaterEnds);
        book.test(10, "Returns the node.", this::lesserEnds);
        book.test(10, "IndexOutOfBoundsException if there is no such link", this::endsOfNoLink);
    }

    private void oneNode() {
        ChipNetwork net = new ChipNetwork();
        is("links", net.count(4), 0);
        is("node 0 is alone", net.parts(), 1);
        is("unvisited node", net.unvisited(0), 0);
        is("no second one", net.unvisited(1), NONE);
        noIndex("node 1", () -> net.lessons(1));
        noIndex("link 0", () -> net.isDead(0));
        is("packets", net.count(6), 0);
        is("length of the buffer", net.appendInput(0, 0, 0, 0, 0), 20);
    }

    private void sizeAtFirst() {
        is("WIDTH", new ChipNetwork().count(0), 1);
        is("HEIGHT", new ChipNetwork().count(1), 1);
    }

    private void timeAtFirst() {
        ChipNetwork net = new ChipNetwork();
        is("TIME", net.count(3), 0);
        is("a tick later", net.tick(1), 1);
        is("of another object", new ChipNetwork().count(3), 0);
    }

    private void countSettings() {
        ChipNetwork net = loaded("grid 5 4;stale 77;");
        net.tick(9);
        int[] due = {5, 4, 77, 9};
        for (int what = 0; what < due.length; what++) {
            is("count " + what, net.count(what), due[what]);
        }
    }

    private void countLinks() {
        is("none of one node", new ChipNetwork().count(4), 0);
        is("of a row", loaded("grid 6 1;").count(4), 5);
        is("of a column", loaded("grid 1 6;").count(4), 5);
        is("of two by two", loaded("grid 2 2;").count(4), 4);
        ChipNetwork net = loaded("grid 6 6;dead 0 east;dead 35 south;");
        is("of the greatest grid, the dead ones too", net.count(4), 60);
        is("dead", net.count(5), 2);
        net.mend(1, 2);
        is("one mended", net.count(5), 1);
        net.mend(29, 1);
        is("all mended", net.count(5), 0);
    }

    private void countPackets() {
        ChipNetwork net = loaded("grid 3 1;lesson 2 2 west;");
        is("none", net.count(6), 0);
        is("none that moves", net.count(7), 0);
        net.send(0, 2, 9);
        net.send(0, 1, 9);
        net.send(0, 2, 1);
        net.send(2, 0, 9);
        is("all four", net.count(6), 4);
        is("all four go", net.count(7), 4);
        net.tick(1);
        is("going, telling, returning and one returned", net.count(7), 3);
        net.tick(2);
        is("one is left", net.count(7), 1);
        net.kill(0, 0);
        net.tick(1);
        is("it is lost", net.packet(0, 3), LOST);
        is("none is left", net.count(7), 0);
        is("still all four", net.count(6), 4);
    }

    private void countLessons() {
        ChipNetwork net = loaded("grid 2 2;stale 3;dead 0 east;lesson 0 0 east;lesson 3 0 east;lesson 3 2 east;");
        is("that hold", net.count(8), 3);
        is("wrong ones", net.count(9), 1);
        net.mend(0, 0);
        is("that hold, one mended", net.count(8), 3);
        is("wrong ones, one mended", net.count(9), 3);
        net.tick(2);
        is("at 2", net.count(8), 3);
        net.tick(1);
        is("at 3", net.count(8), 0);
        is("wrong ones at 3", net.count(9), 0);
    }

    private void countHops() {
        ChipNetwork net = loaded("grid 4 1;");
        is("no packets", net.count(10), 0);
        net.send(0, 3, 9);
        net.send(3, 1, 9);
        is("at first", net.count(10), 0);
        net.tick(1);
        is("one each", net.count(10), 2);
        net.tick(30);
        is("of packets at their ends too", net.count(10), 5);
    }

    private void countUndo() {
        ChipNetwork net = loaded("grid 2 1;");
        is("none", net.count(11), 0);
        for (int n = 1; n <= 14; n++) {
            net.forget(0);
            is("of " + n, net.count(11), n > 12 ? 12 : n);
        }
        net.undo();
        is("one undone", net.count(11), 11);
    }

    private void countOfNewObject() {
        ChipNetwork net = new ChipNetwork();
        int[] due = {1, 1, 50, 0, 0, 0, 0, 0, 0, 0, 0, 0};
        for (int what = 0; what < due.length; what++) {
            is("count " + what, net.count(what), due[what]);
        }
    }

    private void countOther() {
        ChipNetwork net = loaded("grid 6 6;");
        for (int what : new int[] {-1, 12, 13, LEAST, MOST}) {
            is("count " + what, net.count(what), NONE);
        }
    }

    private void directions() {
        ChipNetwork net = loaded("grid 3 3;");
        int[] due = {8, 9, 6, 3};
        for (int way = 0; way < due.length; way++) {
            is("link of 4 in " + way, net.link(4, way), due[way]);
        }
    }

    /** No row goes on in the next one, and no border in the border across. */
    private void noWayRound() {
        for (int width = 1; width <= 6; width++) {
            for (int height = 1; height <= 6; height++) {
                ChipNetwork net = loaded("grid " + width + " " + height + ";");
                for (int y = 0; y < height; y++) {
                    is("east of the last column", net.link(width * y + width - 1, 0), NONE);
                    is("west of the first column", net.link(width * y, 2), NONE);
                }
                for (int x = 0; x < width; x++) {
                    is("north of the last row", net.link(width * (height - 1) + x, 1), NONE);
                    is("south of the first row", net.link(x, 3), NONE);
                }
            }
        }
    }

    private void bothSides() {
        for (int width = 1; width <= 6; width++) {
            int height = 7 - width;
            ChipNetwork net = loaded("grid " + width + " " + height + ";");
            for (int node = 0; node < width * height; node++) {
                boolean isLast = node % width == width - 1;
                is("east of " + node, net.link(node, 0), isLast ? NONE : 2 * node);
                is("from the other side", isLast ? NONE : net.link(node + 1, 2), isLast ? NONE : 2 * node);
                boolean isTop = node + width >= width * height;
                is("north of " + node, net.link(node, 1), isTop ? NONE : 2 * node + 1);
                is("from the other side", isTop ? NONE : net.link(node + width, 3), isTop ? NONE : 2 * node + 1);
            }
        }
    }

    private void linkNumbers() {
        ChipNetwork net = loaded("grid 6 6;");
        is("least", net.link(0, 0), 0);
        is("greatest", net.link(35, 2), 68);
        is("greatest north", net.link(29, 1), 59);
        net.kill(0, 0);
        is("also of a dead one", net.link(0, 0), 0);
    }

    private void noLink() {
        for (int way = 0; way < 4; way++) {
            is("of one node in " + way, new ChipNetwork().link(0, way), NONE);
        }
        ChipNetwork row = loaded("grid 2 1;");
        is("north in a row", row.link(0, 1), NONE);
        is("south in a row", row.link(1, 3), NONE);
        ChipNetwork column = loaded("grid 1 2;");
        is("east in a column", column.link(0, 0), NONE);
        is("west in a column", column.link(1, 2), NONE);
    }

    private void linkOfNoNode() {
        ChipNetwork net = loaded("grid 3 2;");
        is("the last node", net.link(5, 2), 8);
        noIndexFrom(6, "node", node -> net.link(node, 0));
        ChipNetwork all = loaded("grid 6 6;");
        noIndexFrom(36, "node of 36", node -> all.link(node, 3));
    }

    private void linkOfNoWay() {
        ChipNetwork net = loaded("grid 3 2;");
        noArgumentOutside(0, 3, "way", way -> net.link(0, way));
    }

    private void aliveAtFirst() {
        ChipNetwork net = loaded("grid 2 2;");
        for (int link : new int[] {0, 1, 3, 4}) {
            is("link " + link, net.isDead(link), false);
        }
    }

    private void deadOrAlive() {
        ChipNetwork net = loaded("grid 6 6;dead 0 east;dead 34 east;");
        is("the least", net.isDead(0), true);
        is("the greatest", net.isDead(68), true);
        is("the one beside", net.isDead(1), false);
        net.mend(35, 2);
        is("mended", net.isDead(68), false);
        net.kill(6, 3);
        is("killed", net.isDead(1), true);
    }

    private void isDeadOfNoLink() {
        ChipNetwork net = loaded("grid 3 2;");
        for (int link : new int[] {-1, -2, 4, 7, 9, 10, 11, 12, 71, 72, 73, LEAST, MOST}) {
            noIndex("link " + link, () -> net.isDead(link));
        }
        noIndexFrom(0, "of one node, link", link -> new ChipNetwork().isDead(link));
        ChipNetwork all = loaded("grid 6 6;");
        for (int link : new int[] {10, 22, 61, 69, 70, 71, 72}) {
            noIndex("of 36 nodes, link " + link, () -> all.isDead(link));
        }
    }

    private void greaterEnds() {
        ChipNetwork net = loaded("grid 6 6;");
        is("of the least link", net.end(0, true), 1);
        is("of the least one north", net.end(1, true), 6);
        is("of the greatest one", net.end(68, true), 35);
        is("of the greatest one north", net.end(59, true), 35);
        is("in a column", loaded("grid 1 2;").end(1, true), 1);
    }

    private void lesserEnds() {
        ChipNetwork net = loaded("grid 6 6;dead 0 east;");
        is("of the least link", net.end(0, false), 0);
        is("of the least one north", net.end(1, false), 0);
        is("of the greatest one", net.end(68, false), 34);
        is("of the greatest one north", net.end(59, false), 29);
    }

    private void endsOfNoLink() {
        ChipNetwork net = loaded("grid 3 2;");
        for (int link : new int[] {-1, 4, 7, 9, 10, 11, 12, 72, LEAST, MOST}) {
            noIndex("greater node of " + link, () -> net.end(link, true));
            noIndex("lesser node of " + link, () -> net.end(link, false));
        }
        noIndex("east in a column", () -> loaded("grid 1 2;").end(0, false));
    }
}
