/** Promises 44 to 49: forecasts, meanHops and mostFound. */
public final class ForecastTest {
    private static final Check CHECK = new Check("ForecastTest");

    public static void main(String[] args) {
        stateIn();
        quietIn();
        fate();
        fateBehindAllOthers();
        leastLimit();
        beyondTheEnd();
        meanHops();
        mostFound();
        CHECK.end();
    }

    private static ChipNetwork line() {
        ChipNetwork net = Check.loaded("grid 4 1;");
        net.send(0, 3, 9);
        net.send(3, 0, 2);
        return net;
    }

    // Promise 44
    private static void stateIn() {
        ChipNetwork net = line();
        int digest = net.digest();
        CHECK.is("going in 2", net.stateIn(0, 2), 0);
        CHECK.is("telling in 3", net.stateIn(0, 3), 1);
        CHECK.is("telling in 6", net.stateIn(0, 6), 1);
        CHECK.is("told in 7", net.stateIn(0, 7), 3);
        CHECK.is("told in 500", net.stateIn(0, 500), 3);
        CHECK.is("going in 1", net.stateIn(1, 1), 0);
        CHECK.is("returning in 2", net.stateIn(1, 2), 2);
        CHECK.is("returned in 5", net.stateIn(1, 5), 4);
        CHECK.is("nothing is changed", net.digest(), digest);
        CHECK.is("nothing more to undo", net.count(11), 2);
        net.tick(3);
        net.kill(0, 0);
        CHECK.is("lost in 3", net.stateIn(0, 3), 5);
        CHECK.fails("no packet", Check.NO_INDEX, () -> net.stateIn(2, 1));
        CHECK.fails("packet -1", Check.NO_INDEX, () -> net.stateIn(-1, 0));
        CHECK.fails("0 ticks", Check.NO_ARGUMENT, () -> net.stateIn(0, 0));
        CHECK.fails("501 ticks", Check.NO_ARGUMENT, () -> net.stateIn(0, 501));
    }

    // Promise 45
    private static void quietIn() {
        ChipNetwork net = line();
        int digest = net.digest();
        CHECK.is("in 7", net.quietIn(500), 7);
        CHECK.is("just enough", net.quietIn(7), 7);
        CHECK.is("not enough", net.quietIn(6), ChipNetwork.NONE);
        CHECK.is("nothing is changed", net.digest(), digest);
        net.tick(6);
        CHECK.is("one more", net.quietIn(1), 1);
        net.tick(1);
        CHECK.is("quiet now", net.quietIn(1), 0);
        CHECK.fails("0 ticks", Check.NO_ARGUMENT, () -> net.quietIn(0));
        CHECK.fails("501 ticks", Check.NO_ARGUMENT, () -> net.quietIn(501));
    }

    // Promise 46
    private static void fate() {
        ChipNetwork net = Check.loaded("grid 3 2;dead 1 east;lesson 3 3 east;");
        int digest = net.digest();
        CHECK.is("told", net.fate(0, 2, 4), 3);
        CHECK.is("returned", net.fate(0, 2, 3), 4);
        CHECK.is("same", net.fate(1, 1, 1), ChipNetwork.REFUSED);
        CHECK.is("nothing is changed", net.digest(), digest);
        CHECK.is("nothing is sent", net.count(6), 0);
        CHECK.is("nothing to undo", net.count(11), 0);
        CHECK.fails("no source", Check.NO_INDEX, () -> net.fate(6, 0, 1));
        CHECK.fails("source -1", Check.NO_INDEX, () -> net.fate(-1, 0, 1));
        CHECK.fails("no target", Check.NO_INDEX, () -> net.fate(0, 6, 0));
        CHECK.fails("target -1", Check.NO_INDEX, () -> net.fate(0, -1, 1));
        CHECK.fails("limit 0", Check.NO_ARGUMENT, () -> net.fate(0, 1, 0));
        CHECK.fails("limit 201", Check.NO_ARGUMENT, () -> net.fate(0, 1, 201));
        CHECK.fails("exceptions are ahead of codes", Check.NO_ARGUMENT, () -> net.fate(1, 1, 0));
    }

    private static void fateBehindAllOthers() {
        ChipNetwork net = Check.loaded("grid 2 1;");
        for (int k = 0; k < 24; k++) {
            net.send(0, 1, 5);
        }
        CHECK.is("full", net.send(0, 1, 5), ChipNetwork.FULL);
        CHECK.is("a 25th", net.fate(0, 1, 5), 3);
        CHECK.is("and again", net.leastLimit(1, 0), 1);
        CHECK.is("none is sent", net.count(6), 24);
        // Alone it finds 0-1 dead and comes to node 2 when the lesson there is stale;
        // behind another one it is told of 0-1 and comes there a tick too early.
        ChipNetwork taught = Check.loaded("grid 2 2;stale 2;dead 0 east;lesson 2 2 east;");
        CHECK.is("alone", taught.fate(0, 3, 9), 3);
        CHECK.is("alone, least LIMIT", taught.leastLimit(0, 3), 2);
        taught.send(0, 3, 9);
        CHECK.is("behind another one", taught.fate(0, 3, 9), 4);
        CHECK.is("behind another one, least LIMIT", taught.leastLimit(0, 3), ChipNetwork.NONE);
        CHECK.is("the other one", taught.stateIn(0, 20), 3);
    }

    // Promise 47
    private static void leastLimit() {
        ChipNetwork net = Check.loaded("grid 3 2;dead 1 east;");
        int digest = net.digest();
        CHECK.is("0 1 4 5 2", net.leastLimit(0, 2), 4);
        CHECK.is("with it", net.fate(0, 2, 4), 3);
        CHECK.is("with one less", net.fate(0, 2, 3), 4);
        CHECK.is("neighbour", net.leastLimit(0, 3), 1);
        CHECK.is("same", net.leastLimit(4, 4), ChipNetwork.REFUSED);
        CHECK.is("nothing is changed", net.digest(), digest);
        net.kill(2, 1);
        CHECK.is("no way", net.leastLimit(0, 2), ChipNetwork.NONE);
        CHECK.fails("no from", Check.NO_INDEX, () -> net.leastLimit(6, 0));
        CHECK.fails("from -1", Check.NO_INDEX, () -> net.leastLimit(-1, 0));
        CHECK.fails("no to", Check.NO_INDEX, () -> net.leastLimit(0, 6));
        CHECK.fails("to -1", Check.NO_INDEX, () -> net.leastLimit(0, -1));
        ChipNetwork deadEnd = Check.loaded("grid 3 2;dead 1 east;dead 1 north;");
        CHECK.is("steps back count: 0 1 0 3 4 5 2", deadEnd.leastLimit(0, 2), 6);
        CHECK.is("each LIMIT below does not do", deadEnd.fate(0, 2, 5), 4);
    }

    private static void beyondTheEnd() {
        ChipNetwork net = Check.loaded("grid 3 1;");
        for (int n = 0; n < 60; n++) {
            net.tick(500);
        }
        net.send(0, 2, 9);
        CHECK.is("no tick", net.tick(1), ChipNetwork.FULL);
        CHECK.is("stateIn", net.stateIn(0, 500), 3);
        CHECK.is("quietIn", net.quietIn(20), 5);
        CHECK.is("fate", net.fate(2, 0, 9), 3);
        CHECK.is("leastLimit", net.leastLimit(2, 0), 2);
        CHECK.is("TIME", net.count(3), 30000);
    }

    // Promise 48
    private static void meanHops() {
        ChipNetwork net = Check.loaded("grid 6 1;");
        CHECK.fails("no packets", ArithmeticException.class, () -> net.meanHops());
        net.send(0, 1, 9);
        net.send(0, 2, 9);
        net.send(0, 5, 1);
        CHECK.fails("none told", ArithmeticException.class, () -> net.meanHops());
        net.tick(3);
        CHECK.is("one told", net.meanHops() == 1.0, true);
        net.tick(9);
        CHECK.is("two told, one returned", net.meanHops() == 1.5, true);
        net.send(0, 2, 9);
        net.tick(9);
        CHECK.is("a third", net.meanHops() == 5.0 / 3.0, true);
    }

    // Promise 49
    private static void mostFound() {
        ChipNetwork net = Check.loaded("grid 3 2;dead 0 east;dead 3 east;dead 1 east;");
        CHECK.is("no packets", net.mostFound(), ChipNetwork.NONE);
        net.send(3, 5, 9);
        CHECK.is("no MAPs", net.mostFound(), ChipNetwork.NONE);
        net.tick(1);
        CHECK.is("one", net.mostFound(), 6);
        net.send(1, 2, 9);
        net.tick(1);
        CHECK.is("the lowest of several", net.mostFound(), 2);
        net.forget(3);
        net.send(3, 5, 9);
        net.tick(1);
        CHECK.is("the most", net.mostFound(), 6);
        net.mend(3, 0);
        CHECK.is("also if it is alive", net.mostFound(), 6);
        ChipNetwork first = Check.loaded("grid 2 1;dead 0 east;");
        first.send(1, 0, 9);
        first.tick(1);
        CHECK.is("link 0", first.mostFound(), 0);
    }
}
