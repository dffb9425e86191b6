/** Promises 11 to 16 and 29: lessons and how they go stale. */
public final class LessonTest {
    private static final Check CHECK = new Check("LessonTest");

    public static void main(String[] args) {
        lesson();
        lessons();
        knowers();
        wrongLessons();
        wisest();
        nextStale();
        greaterTimeStays();
        forget();
        CHECK.end();
    }

    private static ChipNetwork taught() {
        return Check.loaded("grid 2 2;stale 5;dead 0 east;lesson 3 0 east;lesson 3 0 north;lesson 1 0 east;");
    }

    // Promise 11
    private static void lesson() {
        ChipNetwork net = taught();
        CHECK.is("of TIME 0", net.lesson(3, 0), 0);
        CHECK.is("none", net.lesson(0, 0), ChipNetwork.NONE);
        net.tick(9);
        CHECK.is("holds no more, but is there", net.lesson(3, 0), 0);
        net.send(0, 1, 9);
        net.tick(1);
        CHECK.is("found at 9", net.lesson(0, 0), 9);
        CHECK.fails("no node", Check.NO_INDEX, () -> net.lesson(4, 0));
        CHECK.fails("node -1", Check.NO_INDEX, () -> net.lesson(-1, 0));
        CHECK.fails("no link 2", Check.NO_INDEX, () -> net.lesson(0, 2));
        CHECK.fails("no link -1", Check.NO_INDEX, () -> net.lesson(0, -1));
        CHECK.fails("no link 8", Check.NO_INDEX, () -> net.lesson(0, 8));
    }

    // Promise 12
    private static void lessons() {
        ChipNetwork net = taught();
        CHECK.is("of 3", net.lessons(3), 2);
        CHECK.is("of 1", net.lessons(1), 1);
        CHECK.is("of 0", net.lessons(0), 0);
        net.tick(4);
        CHECK.is("at 4 they hold", net.lessons(3), 2);
        net.tick(1);
        CHECK.is("at 5 they do not", net.lessons(3), 0);
        CHECK.fails("no node", Check.NO_INDEX, () -> net.lessons(4));
        CHECK.fails("node -1", Check.NO_INDEX, () -> net.lessons(-1));
    }

    // Promise 13
    private static void knowers() {
        ChipNetwork net = taught();
        CHECK.is("of link 0", net.knowers(0), 2);
        CHECK.is("of link 1", net.knowers(1), 1);
        CHECK.is("of link 3", net.knowers(3), 0);
        net.tick(5);
        CHECK.is("of link 0 at 5", net.knowers(0), 0);
        CHECK.is("node 0 counts", Check.loaded("grid 2 1;lesson 0 0 east;").knowers(0), 1);
        CHECK.fails("no link", Check.NO_INDEX, () -> net.knowers(2));
        CHECK.fails("link -1", Check.NO_INDEX, () -> net.knowers(-1));
    }

    // Promise 14
    private static void wrongLessons() {
        ChipNetwork net = taught();
        CHECK.is("of 3", net.wrongLessons(3), 1);
        CHECK.is("of 1", net.wrongLessons(1), 0);
        net.mend(0, 0);
        CHECK.is("of 3 behind mending", net.wrongLessons(3), 2);
        CHECK.is("of 1 behind mending", net.wrongLessons(1), 1);
        net.tick(5);
        CHECK.is("none that hold", net.wrongLessons(3), 0);
        CHECK.fails("no node", Check.NO_INDEX, () -> net.wrongLessons(4));
        CHECK.fails("node -1", Check.NO_INDEX, () -> net.wrongLessons(-1));
    }

    // Promise 15
    private static void wisest() {
        ChipNetwork net = taught();
        CHECK.is("most lessons", net.wisest(), 3);
        net.forget(3);
        CHECK.is("one left", net.wisest(), 1);
        net.undo();
        net.tick(5);
        CHECK.is("none hold", net.wisest(), ChipNetwork.NONE);
        ChipNetwork two = Check.loaded("grid 3 1;lesson 2 0 east;lesson 1 0 east;");
        CHECK.is("the lowest of several", two.wisest(), 1);
        CHECK.is("node 0", Check.loaded("grid 2 1;lesson 0 0 east;lesson 1 0 east;").wisest(), 0);
    }

    // Promise 16
    private static void nextStale() {
        ChipNetwork net = taught();
        CHECK.is("TIME 0 and STALE 5", net.nextStale(), 5);
        net.tick(2);
        net.send(0, 1, 9);
        net.tick(1);
        CHECK.is("the older one first", net.nextStale(), 5);
        net.tick(2);
        CHECK.is("then that of 2", net.nextStale(), 7);
        net.tick(2);
        CHECK.is("none holds", net.nextStale(), ChipNetwork.NONE);
        CHECK.is("of a new object", new ChipNetwork().nextStale(), ChipNetwork.NONE);
    }

    private static void greaterTimeStays() {
        ChipNetwork net = Check.loaded("grid 2 2;stale 1;dead 0 east;");
        net.send(0, 3, 20);
        net.tick(2);
        net.send(0, 1, 20);
        net.tick(3);
        CHECK.is("the first packet is back at node 0", net.packet(0, 4), 0);
        CHECK.is("and knows the link from TIME 0", net.found(0, 0), 0);
        CHECK.is("but the node has found it at 2", net.lesson(0, 0), 2);
        CHECK.is("node 2 learned it from the first packet", net.lesson(2, 0), 0);
        net.tick(1);
        CHECK.is("told", net.packet(0, 3), 3);
    }

    // Promise 29
    private static void forget() {
        ChipNetwork net = taught();
        CHECK.is("two that held", net.forget(3), 2);
        CHECK.is("gone", net.lesson(3, 0), ChipNetwork.NONE);
        CHECK.is("gone too", net.lesson(3, 1), ChipNetwork.NONE);
        CHECK.is("those of another node stay", net.lesson(1, 0), 0);
        CHECK.is("none left", net.forget(3), 0);
        net.tick(5);
        CHECK.is("one that does not hold", net.forget(1), 0);
        CHECK.is("is gone as well", net.lesson(1, 0), ChipNetwork.NONE);
        CHECK.is("all these can be undone", net.count(11), 4);
        CHECK.fails("no node", Check.NO_INDEX, () -> net.forget(4));
        CHECK.fails("node -1", Check.NO_INDEX, () -> net.forget(-1));
        CHECK.is("these can not", net.count(11), 4);
        net.undo();
        CHECK.is("it is back", net.lesson(1, 0), 0);
    }
}
