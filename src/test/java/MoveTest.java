/** Promises 25 to 28: send, tick with all that a MOVE does, kill, mend. */
public final class MoveTest {
    private static final Check CHECK = new Check("MoveTest");
    private static final int GOING = 0;
    private static final int TELLING = 1;
    private static final int RETURNING = 2;
    private static final int TOLD = 3;
    private static final int RETURNED = 4;
    private static final int LOST = 5;

    public static void main(String[] args) {
        send();
        sendUntilFull();
        tick();
        tickUntilTheEnd();
        kill();
        mend();
        choosing();
        lessonsOfTheNodeAhead();
        thereAndBack();
        findingDead();
        limitAhead();
        limitAtTarget();
        limitInDeadEnd();
        deadEndWithinLimit();
        stuckAtSource();
        lostOnTheWayBack();
        lostInDeadEnd();
        lostTeachesNothing();
        returningTeaches();
        byNumbers();
        CHECK.end();
    }

    private static void row(ChipNetwork net, int packet, int state, int at, int hops, String when) {
        CHECK.is("state " + when, net.packet(packet, 3), state);
        CHECK.is("AT " + when, net.packet(packet, 4), at);
        CHECK.is("HOPS " + when, net.packet(packet, 5), hops);
    }

    // Promise 25
    private static void send() {
        ChipNetwork net = Check.loaded("grid 3 2;");
        CHECK.is("first", net.send(0, 5, 200), 0);
        CHECK.is("second", net.send(4, 1, 1), 1);
        row(net, 0, GOING, 0, 0, "at first");
        CHECK.is("same nodes", net.send(2, 2, 1), ChipNetwork.REFUSED);
        CHECK.fails("no source", Check.NO_INDEX, () -> net.send(6, 0, 1));
        CHECK.fails("source -1", Check.NO_INDEX, () -> net.send(-1, 0, 1));
        CHECK.fails("no target", Check.NO_INDEX, () -> net.send(0, 6, 1));
        CHECK.fails("target -1", Check.NO_INDEX, () -> net.send(0, -1, 1));
        CHECK.fails("limit 0", Check.NO_ARGUMENT, () -> net.send(0, 1, 0));
        CHECK.fails("limit 201", Check.NO_ARGUMENT, () -> net.send(0, 1, 201));
        CHECK.fails("exceptions are ahead of codes", Check.NO_ARGUMENT, () -> net.send(2, 2, 0));
        CHECK.fails("nodes are ahead of the limit", Check.NO_INDEX, () -> net.send(6, 6, 0));
        CHECK.is("none of these was sent", net.count(6), 2);
        CHECK.is("none of these can be undone", net.count(11), 2);
    }

    private static void sendUntilFull() {
        ChipNetwork net = Check.loaded("grid 2 1;");
        for (int k = 0; k < 24; k++) {
            CHECK.is("send " + k, net.send(k % 2, 1 - k % 2, 5), k);
        }
        CHECK.is("one too many", net.send(0, 1, 5), ChipNetwork.FULL);
        CHECK.is("same nodes are looked at first", net.send(1, 1, 5), ChipNetwork.REFUSED);
        CHECK.is("24 packets", net.count(6), 24);
        net.tick(10);
        CHECK.is("those at their end stay", net.send(0, 1, 5), ChipNetwork.FULL);
        net.undo();
        net.undo();
        CHECK.is("room again", net.send(0, 1, 5), 23);
    }

    // Promise 26
    private static void tick() {
        ChipNetwork net = Check.loaded("grid 6 1;");
        CHECK.is("TIME", net.tick(1), 1);
        CHECK.is("TIME then", net.tick(500), 501);
        CHECK.fails("0 ticks", Check.NO_ARGUMENT, () -> net.tick(0));
        CHECK.fails("-1 ticks", Check.NO_ARGUMENT, () -> net.tick(-1));
        CHECK.fails("501 ticks", Check.NO_ARGUMENT, () -> net.tick(501));
        net.send(0, 5, 9);
        CHECK.is("three", net.tick(3), 504);
        row(net, 0, GOING, 3, 3, "behind three");
        CHECK.is("many", net.tick(400), 904);
        row(net, 0, TOLD, 0, 5, "behind many");
        CHECK.is("at its end with the 11th MOVE", net.packet(0, 10), 511);
    }

    private static void tickUntilTheEnd() {
        ChipNetwork net = Check.loaded("grid 2 1;");
        for (int n = 1; n < 60; n++) {
            net.tick(500);
        }
        CHECK.is("one too many", net.tick(499) + net.tick(2), 29999 + ChipNetwork.FULL);
        int digest = net.digest();
        int undos = net.count(11);
        CHECK.is("changes nothing", net.digest(), digest);
        CHECK.is("the last one", net.tick(1), 30000);
        CHECK.is("no more", net.tick(1), ChipNetwork.FULL);
        CHECK.is("TIME stays", net.count(3), 30000);
        CHECK.is("undo stays", net.count(11), undos);
    }

    // Promise 27
    private static void kill() {
        ChipNetwork net = Check.loaded("grid 2 2;");
        CHECK.is("first", net.kill(0, 0), 1);
        CHECK.is("from the other side it is dead", net.kill(1, 2), ChipNetwork.REFUSED);
        CHECK.is("second", net.kill(3, 2), 2);
        CHECK.is("links 0 and 4", net.isDead(0) && net.isDead(4), true);
        CHECK.is("others live", net.isDead(1) || net.isDead(3), false);
        CHECK.is("no link", net.kill(1, 0), ChipNetwork.REFUSED);
        CHECK.fails("no node", Check.NO_INDEX, () -> net.kill(4, 0));
        CHECK.fails("node -1", Check.NO_INDEX, () -> net.kill(-1, 9));
        CHECK.fails("way 4", Check.NO_ARGUMENT, () -> net.kill(0, 4));
        CHECK.fails("way -1", Check.NO_ARGUMENT, () -> net.kill(0, -1));
        CHECK.is("two can be undone", net.count(11), 2);
        CHECK.is("nobody knows it", net.count(8), 0);
    }

    // Promise 28
    private static void mend() {
        ChipNetwork net = Check.loaded("grid 2 2;dead 0 east;dead 0 north;");
        net.send(0, 3, 9);
        net.tick(1);
        CHECK.is("first", net.mend(1, 2), 1);
        CHECK.is("lesson stays", net.lesson(0, 0), 0);
        CHECK.is("MAP stays", net.found(0, 0), 0);
        CHECK.is("packet still does not go there", net.choice(0), 1);
        CHECK.is("alive", net.mend(0, 0), ChipNetwork.REFUSED);
        CHECK.is("no link", net.mend(0, 3), ChipNetwork.REFUSED);
        CHECK.is("second", net.mend(0, 1), 0);
        CHECK.fails("no node", Check.NO_INDEX, () -> net.mend(4, 0));
        CHECK.fails("node -1", Check.NO_INDEX, () -> net.mend(-1, 9));
        CHECK.fails("way 4", Check.NO_ARGUMENT, () -> net.mend(0, 4));
        CHECK.fails("way -1", Check.NO_ARGUMENT, () -> net.mend(0, -1));
        CHECK.is("all that can be undone", net.count(11), 4);
    }

    private static void choosing() {
        ChipNetwork net = Check.loaded("grid 3 3;");
        CHECK.is("east ahead of north", net.choice(net.send(0, 8, 9)), 0);
        CHECK.is("north ahead of west", net.choice(net.send(2, 6, 9)), 1);
        CHECK.is("west ahead of south", net.choice(net.send(8, 0, 9)), 2);
        CHECK.is("east ahead of south", net.choice(net.send(6, 2, 9)), 0);
        CHECK.is("the nearer one", net.choice(net.send(4, 1, 9)), 3);
        CHECK.is("none nearer", net.choice(net.send(4, 3, 9)), 2);
        net.tick(1);
        row(net, 0, GOING, 1, 1, "one step east");
        row(net, 2, GOING, 7, 1, "one step west");
        row(net, 4, TELLING, 1, 1, "at TARGET");
    }

    private static void lessonsOfTheNodeAhead() {
        ChipNetwork net = Check.loaded("grid 3 2;stale 3;lesson 0 0 east;lesson 0 3 east;lesson 4 1 east;");
        net.send(0, 2, 20);
        CHECK.is("away from the lesson", net.choice(0), 1);
        net.tick(1);
        CHECK.is("a lesson of another node does not count", net.choice(0), 0);
        net.send(0, 2, 20);
        net.tick(1);
        row(net, 0, GOING, 4, 2, "on the upper row");
        row(net, 1, GOING, 3, 1, "also the second one");
        CHECK.is("a lesson about a link elsewhere does not count", net.choice(0), 0);
        net.send(0, 2, 20);
        CHECK.is("at 2 the lesson holds", net.choice(2), 1);
        net.tick(1);
        net.send(0, 2, 20);
        CHECK.is("at 3 it does not", net.choice(3), 0);
    }

    private static void thereAndBack() {
        ChipNetwork net = Check.loaded("grid 4 1;");
        net.tick(7);
        net.send(0, 2, 9);
        net.tick(1);
        row(net, 0, GOING, 1, 1, "underway");
        CHECK.is("no end yet", net.packet(0, 10), ChipNetwork.NONE);
        net.tick(1);
        row(net, 0, TELLING, 2, 2, "at TARGET");
        net.tick(1);
        row(net, 0, TELLING, 1, 2, "one step back");
        CHECK.is("TRAIL", net.packet(0, 6), 2);
        net.tick(1);
        row(net, 0, TELLING, 0, 2, "at SOURCE");
        CHECK.is("still no end", net.packet(0, 10), ChipNetwork.NONE);
        net.tick(1);
        row(net, 0, TOLD, 0, 2, "told");
        CHECK.is("TIME ahead of the last MOVE", net.packet(0, 10), 11);
        net.tick(5);
        row(net, 0, TOLD, 0, 2, "ever since");
        CHECK.is("TIME of the end stays", net.packet(0, 10), 11);
    }

    private static void findingDead() {
        ChipNetwork net = Check.loaded("grid 2 2;dead 0 east;dead 2 east;");
        net.send(0, 3, 9);
        net.tick(1);
        row(net, 0, GOING, 0, 0, "found east dead");
        CHECK.is("in the MAP", net.found(0, 0), 0);
        CHECK.is("learned", net.lesson(0, 0), 0);
        net.tick(2);
        row(net, 0, GOING, 2, 1, "found the other one dead too");
        CHECK.is("found at 2", net.found(0, 4), 2);
        CHECK.is("learned at node 2 alone", net.knowers(4), 1);
        net.tick(1);
        row(net, 0, GOING, 0, 2, "stepped back");
        CHECK.is("one that goes teaches nothing", net.lesson(0, 4), ChipNetwork.NONE);
        CHECK.is("VISITED stays", net.isVisited(0, 2), true);
        net.tick(1);
        row(net, 0, RETURNED, 0, 2, "nowhere to go");
        CHECK.is("at 4", net.packet(0, 10), 4);
    }

    private static void limitAhead() {
        ChipNetwork net = Check.loaded("grid 4 1;");
        net.send(0, 3, 2);
        net.tick(2);
        row(net, 0, RETURNING, 2, 2, "at the LIMIT");
        net.tick(2);
        row(net, 0, RETURNING, 0, 2, "back at SOURCE");
        net.tick(1);
        row(net, 0, RETURNED, 0, 2, "returned");
        CHECK.is("at 4", net.packet(0, 10), 4);
    }

    private static void limitAtTarget() {
        ChipNetwork net = Check.loaded("grid 4 1;");
        net.send(0, 3, 3);
        net.tick(3);
        row(net, 0, TELLING, 3, 3, "TARGET counts ahead of the LIMIT");
        net.tick(4);
        row(net, 0, TOLD, 0, 3, "told");
    }

    private static void limitInDeadEnd() {
        ChipNetwork net = Check.loaded("grid 3 1;dead 1 east;");
        net.send(0, 2, 2);
        net.tick(2);
        row(net, 0, GOING, 1, 1, "found the end");
        net.tick(1);
        row(net, 0, RETURNING, 0, 2, "stepped back to the LIMIT");
        CHECK.is("it did not return ahead of this step, and teaches nothing", net.lesson(0, 2), ChipNetwork.NONE);
        net.tick(1);
        row(net, 0, RETURNED, 0, 2, "returned");
        CHECK.is("at 3", net.packet(0, 10), 3);
    }

    private static void deadEndWithinLimit() {
        ChipNetwork net = Check.loaded("grid 3 2;dead 1 east;dead 1 north;");
        net.send(0, 2, 9);
        net.tick(3);
        row(net, 0, GOING, 1, 1, "found both ends");
        net.tick(1);
        row(net, 0, GOING, 0, 2, "stepped back");
        CHECK.is("TRAIL is SOURCE", net.packet(0, 6), 1);
        net.tick(4);
        row(net, 0, TELLING, 2, 6, "round");
        CHECK.is("write it", net.write(0), 5);
        net.tick(4);
        row(net, 0, TELLING, 0, 6, "home");
        CHECK.is("taught", net.lesson(3, 2) + 10 * net.lesson(4, 3) + 100 * net.lesson(0, 2), 121);
        net.tick(1);
        row(net, 0, TOLD, 0, 6, "told");
    }

    private static void stuckAtSource() {
        ChipNetwork net = Check.loaded("grid 2 1;lesson 0 0 east;");
        net.send(0, 1, 5);
        net.tick(1);
        row(net, 0, RETURNED, 0, 0, "nowhere to go");
        CHECK.is("at 0", net.packet(0, 10), 0);
    }

    private static void lostOnTheWayBack() {
        ChipNetwork net = Check.loaded("grid 3 1;");
        net.send(0, 2, 9);
        net.tick(3);
        net.kill(0, 0);
        net.tick(1);
        row(net, 0, LOST, 1, 2, "lost on the way back");
        CHECK.is("at 3", net.packet(0, 10), 3);
        CHECK.is("TRAIL stays", net.packet(0, 6), 2);
        net.mend(0, 0);
        net.tick(5);
        row(net, 0, LOST, 1, 2, "for ever");
    }

    private static void lostInDeadEnd() {
        for (int limit = 2; limit <= 9; limit += 7) {
            ChipNetwork net = Check.loaded("grid 3 1;dead 1 east;");
            net.send(0, 2, limit);
            net.tick(2);
            net.kill(1, 2);
            net.tick(1);
            row(net, 0, LOST, 1, 2, "lost in a dead end, LIMIT " + limit);
            CHECK.is("at 2", net.packet(0, 10), 2);
        }
    }

    // The document's "behind it" is taken for: behind the step that was made.
    private static void lostTeachesNothing() {
        ChipNetwork net = Check.loaded("grid 2 2;dead 0 east;");
        net.send(0, 3, 9);
        net.tick(3);
        row(net, 0, TELLING, 3, 2, "at TARGET");
        net.kill(2, 0);
        net.tick(1);
        row(net, 0, LOST, 3, 2, "lost at TARGET");
        CHECK.is("TARGET learned nothing", net.lesson(3, 0), ChipNetwork.NONE);
    }

    private static void returningTeaches() {
        ChipNetwork net = Check.loaded("grid 3 3;dead 0 east;");
        net.send(0, 8, 2);
        net.tick(3);
        row(net, 0, RETURNING, 4, 2, "at the LIMIT");
        CHECK.is("not taught where it turned", net.lesson(4, 0), ChipNetwork.NONE);
        net.forget(0);
        net.tick(1);
        CHECK.is("taught on the way", net.lesson(3, 0), 0);
        net.tick(1);
        CHECK.is("taught at SOURCE again", net.lesson(0, 0), 0);
        net.tick(1);
        row(net, 0, RETURNED, 0, 2, "returned");
    }

    private static void byNumbers() {
        ChipNetwork net = Check.loaded("grid 2 2;dead 0 east;");
        net.send(0, 3, 9);
        net.send(0, 3, 9);
        net.tick(1);
        row(net, 0, GOING, 0, 0, "the first one finds the link dead");
        row(net, 1, GOING, 2, 1, "the second one knows it in the same tick");
        CHECK.is("without a MAP", net.packet(1, 8), 0);
    }
}
