/** Promises 53 to 56: undo, digest, snapshots. */
public final class BackTest {
    private static final Check CHECK = new Check("BackTest");

    public static void main(String[] args) {
        undo();
        undoAll();
        onlyTwelve();
        notUndone();
        digest();
        snapshots();
        anotherPacketOfTheSameNumber();
        snapshotsAndUndo();
        CHECK.end();
    }

    private static ChipNetwork busy() {
        ChipNetwork net = Check.loaded("grid 3 3;stale 9;dead 0 east;lesson 8 0 east;");
        net.send(0, 8, 20);
        net.tick(3);
        return net;
    }

    // Promise 53
    private static void undo() {
        CHECK.is("nothing to undo", new ChipNetwork().undo(), ChipNetwork.NONE);
        ChipNetwork net = busy();
        net.tick(4);
        CHECK.is("undo a tick", net.undo(), 2);
        CHECK.is("TIME", net.count(3), 3);
        CHECK.is("AT", net.packet(0, 4), 4);
        CHECK.is("TRAIL", net.packet(0, 6), 3);
        CHECK.is("VISITED", net.isVisited(0, 8), false);
        CHECK.is("MAP", net.found(0, 0), 0);
        net.kill(4, 0);
        CHECK.is("undo a kill", net.undo(), 2);
        CHECK.is("link", net.isDead(8), false);
        net.mend(0, 0);
        net.undo();
        CHECK.is("undo a mend", net.isDead(0), true);
        net.forget(8);
        net.undo();
        CHECK.is("undo a forget", net.lesson(8, 0), 0);
        net.send(1, 2, 3);
        net.undo();
        CHECK.is("undo a send", net.count(6), 1);
        CHECK.fails("packet is gone", Check.NO_INDEX, () -> net.packet(1, 0));
        CHECK.is("undo the first tick", net.undo(), 1);
        CHECK.is("MAP", net.found(0, 0), ChipNetwork.NONE);
        CHECK.is("lesson", net.lesson(0, 0), ChipNetwork.NONE);
        CHECK.is("undo the first send", net.undo(), 0);
        CHECK.is("no packets", net.count(6), 0);
        CHECK.is("no more", net.undo(), ChipNetwork.NONE);
        net.forget(1);
        CHECK.is("a call that changed nothing", net.undo(), 0);
    }

    private static void undoAll() {
        ChipNetwork net = busy();
        int[] digests = new int[10];
        for (int n = 0; n < 10; n++) {
            digests[n] = net.digest();
            if (n % 3 == 0) {
                net.tick(n + 1);
            } else {
                net.send(n % 9, (n + 4) % 9, 30);
            }
        }
        for (int n = 9; n >= 0; n--) {
            CHECK.is("undo of " + n, net.undo(), n + 2);
            CHECK.is("digest of " + n, net.digest(), digests[n]);
        }
    }

    private static void onlyTwelve() {
        ChipNetwork net = Check.loaded("grid 2 1;");
        for (int n = 1; n <= 15; n++) {
            net.tick(n);
            CHECK.is("calls that can be undone", net.count(11), Math.min(n, 12));
        }
        for (int n = 11; n >= 0; n--) {
            CHECK.is("undo", net.undo(), n);
        }
        CHECK.is("TIME behind three ticks", net.count(3), 6);
        CHECK.is("no more", net.undo(), ChipNetwork.NONE);
        CHECK.is("that changed nothing", net.count(3), 6);
        net.tick(1);
        CHECK.is("again", net.undo(), 0);
    }

    private static void notUndone() {
        ChipNetwork net = busy();
        net.send(1, 1, 1);
        net.mend(1, 0);
        net.kill(0, 0);
        CHECK.fails("tick", Check.NO_ARGUMENT, () -> net.tick(0));
        CHECK.fails("forget", Check.NO_INDEX, () -> net.forget(9));
        net.write(0);
        net.saveSnapshot(0);
        net.stateIn(0, 5);
        CHECK.is("two as ahead", net.count(11), 2);
    }

    // Promise 54
    private static void digest() {
        CHECK.is("new object", new ChipNetwork().digest(), 961);
        ChipNetwork net = Check.loaded("grid 2 1;lesson 0 0 east;");
        CHECK.is("31 * (31 * 31 + 0) + 1", net.digest(), 29792);
        net.kill(0, 0);
        CHECK.is("31 * (31 * 31 + 1) + 1", net.digest(), 29823);
        net.tick(50);
        CHECK.is("31 * (31 * 81 + 1), without lessons", net.digest(), 77872);
        net.send(1, 0, 5);
        int due = 31 * 81 + 1;
        due = 31 * (31 * (31 * (31 * due + 1)));
        CHECK.is("a packet at node 1", net.digest(), due);
        net.mend(0, 0);
        net.tick(1);
        due = 31 * (31 + 51);
        due = 31 * (31 * (31 * (31 * due) + 1) + 1);
        CHECK.is("a packet at node 0, telling, one hop", net.digest(), due);
        ChipNetwork nine = Check.loaded("grid 3 3;stale 9;dead 0 east;lesson 8 0 east;");
        int sum = 31;
        for (int link : new int[] {0, 1, 2, 3, 5, 6, 7, 8, 9, 11, 12, 14}) {
            sum = 31 * sum + (link == 0 ? 1 : 0);
        }
        CHECK.is("overflow wraps", nine.digest(), 31 * sum + 1);
    }

    // Promises 55 and 56
    private static void snapshots() {
        ChipNetwork net = busy();
        for (int place : new int[] {-1, 2, Integer.MIN_VALUE, Integer.MAX_VALUE}) {
            CHECK.is("save in " + place, net.saveSnapshot(place), false);
            CHECK.is("restore from " + place, net.restoreSnapshot(place), false);
        }
        CHECK.is("none in 0", net.restoreSnapshot(0), false);
        CHECK.is("save in 1", net.saveSnapshot(1), true);
        CHECK.is("still none in 0", net.restoreSnapshot(0), false);
        int first = net.digest();
        net.tick(2);
        net.kill(7, 0);
        net.forget(8);
        net.send(4, 0, 7);
        int second = net.digest();
        CHECK.is("save in 0", net.saveSnapshot(0), true);
        CHECK.is("undo stays", net.count(11), 6);
        CHECK.is("restore 1", net.restoreSnapshot(1), true);
        CHECK.is("first digest", net.digest(), first);
        CHECK.is("nothing can be undone", net.undo(), ChipNetwork.NONE);
        CHECK.is("lesson", net.lesson(8, 0), 0);
        CHECK.is("link", net.isDead(14), false);
        CHECK.is("TRAIL", net.trail(0, 2), 4);
        CHECK.is("MAP", net.found(0, 0), 0);
        net.tick(100);
        CHECK.is("restore 1 again", net.restoreSnapshot(1), true);
        CHECK.is("it stayed", net.digest(), first);
        CHECK.is("restore 0", net.restoreSnapshot(0), true);
        CHECK.is("second digest", net.digest(), second);
        CHECK.is("save in 1 in place of the first", net.saveSnapshot(1), true);
        net.tick(9);
        net.restoreSnapshot(1);
        CHECK.is("replaced", net.digest(), second);
    }

    private static void anotherPacketOfTheSameNumber() {
        ChipNetwork net = Check.loaded("grid 3 1;");
        net.tick(1);
        net.send(0, 1, 3);
        net.tick(9);
        net.saveSnapshot(0);
        net.undo();
        net.undo();
        net.undo();
        net.send(2, 0, 200);
        net.restoreSnapshot(0);
        int[] due = {0, 1, 3, 3, 0, 1, 1, 2, 0, 1, 3};
        for (int what = 0; what < due.length; what++) {
            CHECK.is("packet 0 " + what + " restored", net.packet(0, what), due[what]);
        }
    }

    private static void snapshotsAndUndo() {
        ChipNetwork net = busy();
        net.saveSnapshot(0);
        int saved = net.digest();
        net.undo();
        net.undo();
        net.send(2, 6, 5);
        net.tick(3);
        CHECK.is("undo leaves a snapshot", net.restoreSnapshot(0), true);
        CHECK.is("as it was", net.digest(), saved);
        CHECK.is("failing restore keeps undo", net.tick(1) > 0 && !net.restoreSnapshot(1), true);
        CHECK.is("one to undo", net.count(11), 1);
        CHECK.is("undo behind a restore", net.undo(), 0);
        CHECK.is("as it was again", net.digest(), saved);
    }
}
