/** Promises 1 and 7 to 10: a new object, count, link, isDead, end. */
public final class NetworkTest {
    private static final Check CHECK = new Check("NetworkTest");

    public static void main(String[] args) {
        newObject();
        count();
        link();
        isDead();
        end();
        CHECK.end();
    }

    // Promise 1
    private static void newObject() {
        ChipNetwork net = new ChipNetwork();
        int[] due = {1, 1, 50, 0, 0, 0, 0, 0, 0, 0, 0, 0};
        for (int what = 0; what < due.length; what++) {
            CHECK.is("count " + what, net.count(what), due[what]);
        }
        CHECK.is("link", net.link(0, 0), ChipNetwork.NONE);
        CHECK.is("parts", net.parts(), 1);
        CHECK.is("unvisited", net.unvisited(0), 0);
        CHECK.is("output", net.outputByte(0), ChipNetwork.NONE);
        CHECK.is("undo", net.undo(), ChipNetwork.NONE);
        CHECK.is("snapshot", net.restoreSnapshot(0) || net.restoreSnapshot(1), false);
        CHECK.is("buffer", net.truncateInput(1), ChipNetwork.NONE);
        CHECK.is("tick", net.tick(500), 500);
        ChipNetwork other = new ChipNetwork();
        CHECK.is("another object is another network", other.count(3), 0);
    }

    // Promise 7
    private static void count() {
        ChipNetwork net = Check.loaded("grid 4 3;stale 6;dead 0 east;dead 5 north;lesson 3 0 east;lesson 7 1 east;");
        int[] due = {4, 3, 6, 0, 17, 2, 0, 0, 2, 1, 0, 0};
        for (int what = 0; what < due.length; what++) {
            CHECK.is("count " + what, net.count(what), due[what]);
        }
        CHECK.is("count 12", net.count(12), ChipNetwork.NONE);
        CHECK.is("count -1", net.count(-1), ChipNetwork.NONE);
        CHECK.is("count of the least", net.count(Integer.MIN_VALUE), ChipNetwork.NONE);
        net.send(0, 4, 5);
        net.send(1, 3, 1);
        net.tick(3);
        int[] then = {4, 3, 6, 3, 17, 2, 2, 0, 2, 1, 2, 3};
        for (int what = 0; what < then.length; what++) {
            CHECK.is("count " + what + " then", net.count(what), then[what]);
        }
        net.send(0, 1, 9);
        net.tick(1);
        CHECK.is("one more that moves", net.count(7), 1);
        CHECK.is("one more lesson", net.count(8), 3);
        net.mend(0, 0);
        CHECK.is("dead links", net.count(5), 1);
        CHECK.is("wrong lessons", net.count(9), 3);
        net.tick(2);
        CHECK.is("lessons of TIME 0 do not hold at 6", net.count(8), 1);
    }

    // Promise 8
    private static void link() {
        ChipNetwork net = Check.loaded("grid 3 2;");
        int[][] due = {{0, 1, -1, -1}, {2, 3, 0, -1}, {-1, 5, 2, -1}, {6, -1, -1, 1}, {8, -1, 6, 3}, {-1, -1, 8, 5}};
        for (int node = 0; node < 6; node++) {
            for (int way = 0; way < 4; way++) {
                CHECK.is("link " + node + " " + way, net.link(node, way), due[node][way]);
            }
        }
        CHECK.fails("node 6", Check.NO_INDEX, () -> net.link(6, 0));
        CHECK.fails("node -1", Check.NO_INDEX, () -> net.link(-1, 0));
        CHECK.fails("way 4", Check.NO_ARGUMENT, () -> net.link(0, 4));
        CHECK.fails("way -1", Check.NO_ARGUMENT, () -> net.link(0, -1));
        CHECK.fails("the node first", Check.NO_INDEX, () -> net.link(6, 4));
        ChipNetwork tower = Check.loaded("grid 1 3;");
        CHECK.is("north in one column", tower.link(0, 1), 1);
        CHECK.is("south in one column", tower.link(2, 3), 3);
        CHECK.is("east in one column", tower.link(1, 0), ChipNetwork.NONE);
        CHECK.is("west in one column", tower.link(1, 2), ChipNetwork.NONE);
        ChipNetwork all = Check.loaded("grid 6 6;");
        CHECK.is("greatest link", all.link(34, 0), 68);
        CHECK.is("greatest link from the other side", all.link(35, 2), 68);
        CHECK.is("greatest link north", all.link(35, 3), 59);
    }

    // Promise 9
    private static void isDead() {
        ChipNetwork net = Check.loaded("grid 3 2;dead 4 south;");
        CHECK.is("link 3", net.isDead(3), true);
        CHECK.is("link 0", net.isDead(0), false);
        net.kill(0, 0);
        CHECK.is("link 0 killed", net.isDead(0), true);
        net.mend(1, 3 - 2);
        CHECK.is("link 3 mended", net.isDead(3), false);
        for (int no : new int[] {-1, 4, 7, 9, 10, 11, 12, 72, 1000, Integer.MIN_VALUE, Integer.MAX_VALUE}) {
            CHECK.fails("no link " + no, Check.NO_INDEX, () -> net.isDead(no));
        }
        CHECK.fails("no link in a network of one node", Check.NO_INDEX, () -> new ChipNetwork().isDead(0));
    }

    // Promise 10
    private static void end() {
        ChipNetwork net = Check.loaded("grid 3 2;");
        CHECK.is("lesser end of 3", net.end(3, false), 1);
        CHECK.is("greater end of 3", net.end(3, true), 4);
        CHECK.is("lesser end of 8", net.end(8, false), 4);
        CHECK.is("greater end of 8", net.end(8, true), 5);
        for (int no : new int[] {-1, 4, 7, 10, 11, 12}) {
            CHECK.fails("ends of no link " + no, Check.NO_INDEX, () -> net.end(no, true));
        }
        ChipNetwork tower = Check.loaded("grid 1 2;");
        CHECK.is("greater end in one column", tower.end(1, true), 1);
        CHECK.fails("no link east in one column", Check.NO_INDEX, () -> tower.end(0, false));
    }
}
