/** Sentences of the description and of promises 4 to 29 that name no boundary case: each is held by a test as well. */
final class PlainNetwork extends Bounds {
    /**
     * 4 5 6 7 above 0 1 2 3; without 1-2 and 6-7. Its links: 0 2 4 in the lower row, 8 10 12 in the upper one,
     * 1 3 5 7 between them. A packet from 0 to 3 goes 0 1 5 6 2 3, and finds link 2 dead at 1 and link 12 at 4.
     */
    static final String EIGHT = "grid 4 2;stale 10;dead 1 east;dead 6 east;"
            + "lesson 5 1 north;lesson 5 1 east;lesson 7 3 north;";

    PlainNetwork(Book book) {
        super(book);
    }

    static ChipNetwork journey(int ticks) {
        ChipNetwork net = loaded(EIGHT);
        net.send(0, 3, 30);
        if (ticks > 0) {
            net.tick(ticks);
        }
        return net;
    }

    @Override
    void run() {
        book.test(4, "Reads the input buffer.", this::reads);
        book.test(4, "numbers (longest runs of digits, at most 5 digits) and the symbol ; each", this::runs);
        book.test(4, "lesson NODE NODE WAY ; (the first node LEARNS at the TIME 0 that the link of the second one is dead)",
                this::lessonStatement);
        book.test(7, "Returns a number.", this::numbers);
        book.test(8, "The node at column x and row y (from 0) has the number WIDTH * y + x.", this::columnsAndRows);
        book.test(8, "A LINK joins a node with the next one in a direction, if there is one", this::fromBothSides);
        book.test(8, "Returns the link of a node in a direction.", this::links);
        book.test(9, "Tells whether a link is dead.", this::dead);
        book.test(10, "Returns the nodes of a link.", this::ends);
        book.test(11, "A LESSON of a node says that a link is dead", this::saysDead);
        book.test(11, "Returns the lesson of a node about a link.", this::lesson);
        book.test(12, "Counts the lessons of a node that hold.", this::lessons);
        book.test(13, "Counts the nodes with a lesson about a link that holds.", this::knowers);
        book.test(14, "Counts the lessons of a node that hold, although their links are alive.", this::wrongLessons);
        book.test(15, "Finds the node with the most lessons that hold.", this::wisest);
        book.test(17, "Returns the DISTANCE of two nodes.", this::distance);
        book.test(18, "Returns the fewest hops from a node to another one, over links that are alive.", this::shortest);
        book.test(21, "Counts the greatest sets of nodes that hang together by links that are alive.", this::parts);
        book.test(23, "Finds the fewest links that are alive without which there would be no way from a node to another"
                + " one over links that are alive.", this::cut);
        book.test(24, "of all that there is a way to over links that are alive, the one with the most of the fewest"
                + " hops.", this::farthest);
        book.test(25, "Sends a packet.", this::sends);
        book.test(26, "Lets ticks go by.", this::ticks);
        book.test(26, "MOVE of one that goes.", this::goes);
        book.test(26, "Otherwise it steps back.", this::stepsBack);
        book.test(27, "Lets a link die.", this::kills);
        book.test(28, "Mends a link.", this::mends);
    }

    private void reads() {
        ChipNetwork net = new ChipNetwork();
        Check.put(net, "grid 3 2;stale 7;dead 0 north;lesson 4 2 west;");
        is("nodes", net.load(), 6);
        is("WIDTH", net.count(0), 3);
        is("HEIGHT", net.count(1), 2);
        is("STALE", net.count(2), 7);
        is("link 1", net.isDead(1), true);
        is("lesson", net.lesson(4, 2), 0);
        is("the buffer", net.truncateInput(1), NONE);
    }

    private void runs() {
        ChipNetwork net = loaded("grid4 2;stale00012;dead1east;lesson 5\n1north\n;");
        is("nodes", net.count(0) * net.count(1), 8);
        is("STALE", net.count(2), 12);
        is("link 2", net.isDead(2), true);
        is("lesson", net.lesson(5, 3), 0);
        Check.put(net, "grid 4 2;;");
        is("a symbol too many", net.load(), TEXT_ERROR);
        is("its code", net.errorCode(), 1);
        is("its place", net.errorPosition(), 9);
    }

    private void lessonStatement() {
        ChipNetwork net = loaded("grid 4 2;lesson 7 1 east;");
        is("of the first node", net.lesson(7, 2), 0);
        is("not of the second", net.lesson(1, 2), NONE);
        is("the link itself is alive", net.isDead(2), false);
    }

    private void numbers() {
        int[] due = {4, 2, 10, 13, 10, 2, 1, 0, 5, 0, 5, 2, NONE};
        ChipNetwork net = journey(13);
        for (int what = 0; what < due.length; what++) {
            is("number " + what, net.count(what), due[what]);
        }
        net.mend(6, 0);
        is("dead links then", net.count(5), 1);
        is("wrong lessons then", net.count(9), 5);
    }

    private void columnsAndRows() {
        for (int width = 1; width <= 6; width++) {
            ChipNetwork net = loaded("grid " + width + " 6;");
            for (int node = 0; node < 6 * width; node++) {
                is("columns and rows from 0 to " + node, net.distance(0, node), node % width + node / width);
            }
        }
    }

    private void fromBothSides() {
        int[] across = {1, 0, -1, 0};
        int[] up = {0, 1, 0, -1};
        ChipNetwork net = loaded("grid 5 4;");
        for (int node = 0; node < 20; node++) {
            for (int way = 0; way < 4; way++) {
                int x = node % 5 + across[way];
                int y = node / 5 + up[way];
                boolean isThere = x >= 0 && y >= 0 && x < 5 && y < 4;
                int lesser = Math.min(node, 5 * y + x);
                is(node + " in " + way, net.link(node, way), isThere ? 2 * lesser + way % 2 : NONE);
                if (isThere) {
                    is("back to " + node, net.link(5 * y + x, (way + 2) % 4), net.link(node, way));
                }
            }
        }
    }

    private void links() {
        int[][] due = {{0, 1, NONE, NONE}, {2, 3, 0, NONE}, {4, 5, 2, NONE}, {NONE, 7, 4, NONE},
            {8, NONE, NONE, 1}, {10, NONE, 8, 3}, {12, NONE, 10, 5}, {NONE, NONE, 12, 7}};
        ChipNetwork net = loaded(EIGHT);
        for (int node = 0; node < 8; node++) {
            for (int way = 0; way < 4; way++) {
                is("of " + node + " in " + way, net.link(node, way), due[node][way]);
            }
        }
    }

    private void dead() {
        ChipNetwork net = loaded(EIGHT);
        for (int link : new int[] {0, 1, 2, 3, 4, 5, 7, 8, 10, 12}) {
            is("link " + link, net.isDead(link), link == 2 || link == 12);
        }
    }

    private void ends() {
        int[][] due = {{0, 0, 1}, {1, 0, 4}, {2, 1, 2}, {3, 1, 5}, {4, 2, 3}, {5, 2, 6}, {7, 3, 7}, {8, 4, 5},
            {10, 5, 6}, {12, 6, 7}};
        ChipNetwork net = loaded(EIGHT);
        for (int[] one : due) {
            is("lesser of " + one[0], net.end(one[0], false), one[1]);
            is("greater of " + one[0], net.end(one[0], true), one[2]);
        }
    }

    private void saysDead() {
        ChipNetwork net = loaded(EIGHT);
        int packet = net.send(7, 2, 9);
        is("7 believes its lesson of a living link", net.reason(packet, 3), 3);
        is("and goes where it has none, though that link is dead", net.choice(packet), 2);
    }

    private void lesson() {
        ChipNetwork net = journey(1);
        is("of 5 about 3", net.lesson(5, 3), 0);
        is("of 5 about 2", net.lesson(5, 2), 0);
        is("of 1 about 2, not found yet", net.lesson(1, 2), NONE);
        net.tick(1);
        is("of 1 about 2", net.lesson(1, 2), 1);
        net.tick(8);
        is("of 5 about 2, as it was told", net.lesson(5, 2), 1);
        is("of 5 about 12", net.lesson(5, 12), 4);
        is("of 5 about 3, which is stale", net.lesson(5, 3), 0);
    }

    private void lessons() {
        int[][] due = {{0, 0, 0, 0, 0, 2, 0, 1}, {0, 1, 2, 0, 0, 2, 2, 0}, {1, 1, 1, 0, 0, 1, 1, 0}};
        int[] ticks = {0, 10, 13};
        for (int n = 0; n < ticks.length; n++) {
            ChipNetwork net = journey(ticks[n]);
            for (int node = 0; node < 8; node++) {
                is("of " + node + " at " + ticks[n], net.lessons(node), due[n][node]);
            }
        }
    }

    private void knowers() {
        ChipNetwork net = journey(0);
        is("of 2 at 0", net.knowers(2), 1);
        is("of 3 at 0", net.knowers(3), 1);
        is("of 12 at 0", net.knowers(12), 0);
        net.tick(10);
        is("of 2 at 10", net.knowers(2), 4);
        is("of 3 at 10", net.knowers(3), 0);
        is("of 12 at 10", net.knowers(12), 3);
        net.tick(2);
        is("of 2 at 12", net.knowers(2), 0);
        is("of 12 at 12", net.knowers(12), 5);
    }

    private void wrongLessons() {
        ChipNetwork net = loaded(EIGHT);
        is("of 5", net.wrongLessons(5), 1);
        is("of 7", net.wrongLessons(7), 1);
        is("of 0", net.wrongLessons(0), 0);
        net.mend(2, 2);
        is("of 5, link 2 mended", net.wrongLessons(5), 2);
        net.kill(5, 3);
        is("of 5, link 3 killed", net.wrongLessons(5), 1);
        net.tick(10);
        is("of 5, stale", net.wrongLessons(5), 0);
    }

    private void wisest() {
        is("at 0", journey(0).wisest(), 5);
        is("at 10, of 2, 5 and 6", journey(10).wisest(), 2);
        is("at 12, of 0, 1, 2, 5 and 6", journey(12).wisest(), 0);
        is("at 14", journey(14).wisest(), NONE);
    }

    private void distance() {
        ChipNetwork net = loaded(EIGHT);
        int[] from4 = {1, 2, 3, 4, 0, 1, 2, 3};
        for (int node = 0; node < 8; node++) {
            is("4 to " + node, net.distance(4, node), from4[node]);
            is(node + " to 4", net.distance(node, 4), from4[node]);
        }
    }

    private void shortest() {
        ChipNetwork net = loaded(EIGHT);
        int[] from0 = {0, 1, 4, 5, 1, 2, 3, 6};
        for (int node = 0; node < 8; node++) {
            is("0 to " + node, net.shortest(0, node), from0[node]);
            is(node + " to 0", net.shortest(node, 0), from0[node]);
        }
    }

    private void parts() {
        ChipNetwork net = loaded(EIGHT);
        is("one of eight", net.parts(), 1);
        net.kill(5, 0);
        is("two of four", net.parts(), 2);
        net.kill(3, 1);
        is("one of four, one of three, and 7", net.parts(), 3);
        net.mend(6, 0);
        is("7 with its row", net.parts(), 2);
    }

    private void cut() {
        ChipNetwork net = loaded(EIGHT);
        is("in the ring", net.cut(0, 5), 2);
        is("out of the ring", net.cut(0, 6), 1);
        is("in the row", net.cut(6, 7), 1);
        net.mend(1, 0);
        is("two ways out of the ring", net.cut(0, 6), 2);
        is("but one to 7", net.cut(0, 7), 1);
        net.mend(6, 0);
        is("three ways, two of them round", net.cut(1, 5), 3);
        is("no more than two from column to column", net.cut(1, 6), 2);
    }

    private void farthest() {
        ChipNetwork net = loaded(EIGHT);
        int[] due = {7, 7, 0, 0, 7, 7, 0, 0};
        for (int node = 0; node < 8; node++) {
            is("from " + node, net.farthest(node), due[node]);
        }
    }

    private void sends() {
        ChipNetwork net = loaded(EIGHT);
        net.tick(6);
        is("packet", net.send(6, 1, 7), 0);
        int[] due = {6, 1, 7, GOING, 6, 0, 1, 1, 0, 6, NONE};
        for (int what = 0; what < due.length; what++) {
            is("property " + what, net.packet(0, what), due[what]);
        }
        is("another one", net.send(1, 6, 8), 1);
        is("packets", net.count(6), 2);
    }

    private void ticks() {
        ChipNetwork net = journey(0);
        for (int n = 1; n <= 13; n++) {
            is("TIME", net.tick(1), n);
            is("at " + n + " as at once", net.digest(), journey(n).digest());
        }
    }

    /** What a packet at AT has behind it at each TIME: 0 1 (finds 2) 5 6 (finds 12) 2 3. */
    private void goes() {
        int[][] due = {{0, 0}, {1, 1}, {1, 1}, {5, 2}, {6, 3}, {6, 3}, {2, 4}};
        for (int time = 0; time < due.length; time++) {
            row("at " + time, journey(time), 0, GOING, due[time][0], due[time][1]);
        }
        row("at 7", journey(7), 0, TELLING, 3, 5);
    }

    private void stepsBack() {
        int[] due = {3, 2, 6, 5, 1, 0};
        for (int n = 0; n < due.length; n++) {
            ChipNetwork net = journey(7 + n);
            row("at " + (7 + n), net, 0, TELLING, due[n], 5);
            is("TRAIL at " + (7 + n), net.packet(0, 6), due.length - n);
        }
        row("at 13", journey(13), 0, TOLD, 0, 5);
    }

    private void kills() {
        ChipNetwork net = loaded(EIGHT);
        is("dead links", net.kill(4, 3), 3);
        is("link 1", net.isDead(1), true);
        is("round it", net.shortest(0, 4), 3);
        is("no lesson of it", net.knowers(1), 0);
        is("from the other side", net.kill(0, 1), REFUSED);
        is("one more", net.kill(0, 0), 4);
        is("no way", net.shortest(0, 4), NONE);
    }

    private void mends() {
        ChipNetwork net = loaded(EIGHT);
        is("dead links", net.mend(7, 2), 1);
        is("link 12", net.isDead(12), false);
        is("over it", net.shortest(6, 7), 1);
        is("the last one", net.mend(1, 0), 0);
        is("over it", net.shortest(1, 2), 1);
    }
}
