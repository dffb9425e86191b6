/** Boundary cases of promises 11 to 16 and 29: lessons. */
final class LessonBounds extends Bounds {
    private static final String HELD = "holds as long as TIME is less than this plus STALE";

    LessonBounds(Book book) {
        super(book);
    }

    @Override
    void run() {
        book.test(11, "Returns its TIME, whether it holds or not", this::whetherItHolds);
        book.test(11, "NONE if there is none", this::noLesson);
        book.test(11, "LEARNING one with a time keeps the greater time, if it has one already", this::greaterTime);
        book.test(11, "IndexOutOfBoundsException if there is no such node or link", this::lessonOfNothing);
        book.test(12, HELD, this::lessonsHold);
        book.test(12, "A node has at most one lesson of each link", this::oneOfEachLink);
        book.test(12, "Returns the number.", this::numberOfLessons);
        book.test(12, "IndexOutOfBoundsException if there is no such node",
                () -> noIndexFrom(4, "node", taught()::lessons));
        book.test(13, HELD, this::knowersHold);
        book.test(13, "Returns the number.", this::numberOfKnowers);
        book.test(13, "IndexOutOfBoundsException if there is no such link", this::knowersOfNoLink);
        book.test(14, HELD, this::wrongLessonsHold);
        book.test(14, "Returns the number.", this::numberOfWrongLessons);
        book.test(14, "IndexOutOfBoundsException if there is no such node",
                () -> noIndexFrom(4, "node", taught()::wrongLessons));
        book.test(15, "Returns the node, of several the lowest one", this::wisestOfSeveral);
        book.test(15, "NONE if no lesson holds", this::noWisest);
        book.test(16, "Returns the TIME", this::nextToGo);
        book.test(16, "NONE if no lesson holds", this::noNextToGo);
        book.test(29, "Lets a node forget all its lessons.", this::forgetsAll);
        book.test(29, "Returns how many it had that held.", this::forgetsThoseThatHold);
        book.test(29, "IndexOutOfBoundsException if there is no such node",
                () -> noIndexFrom(4, "node", taught()::forget));
    }

    /** Node 3 knows two links, one of which is alive; node 1 knows one. */
    private static ChipNetwork taught() {
        return loaded("grid 2 2;stale 5;dead 0 east;lesson 3 0 east;lesson 3 0 north;lesson 1 0 east;");
    }

    private void whetherItHolds() {
        ChipNetwork net = taught();
        is("that holds", net.lesson(3, 0), 0);
        net.tick(5);
        is("that does not hold", net.lesson(3, 0), 0);
        net.tick(500);
        is("for ever", net.lesson(3, 0), 0);
        net.send(0, 1, 9);
        net.tick(1);
        is("found late", net.lesson(0, 0), 505);
    }

    private void noLesson() {
        ChipNetwork net = taught();
        is("of the node, another link", net.lesson(3, 3), NONE);
        is("of the link, another node", net.lesson(0, 0), NONE);
        is("also of a link that is dead", net.lesson(2, 0), NONE);
    }

    /** The first packet finds the link at 0 and comes home behind the second one, which finds it at 2. */
    private void greaterTime() {
        ChipNetwork net = loaded("grid 2 2;stale 1;dead 0 east;");
        net.send(0, 3, 20);
        net.tick(2);
        net.send(0, 1, 20);
        net.tick(1);
        is("the later one replaces the earlier one", net.lesson(0, 0), 2);
        net.tick(2);
        is("the first packet is home", net.packet(0, 4), 0);
        is("with its earlier time", net.found(0, 0), 0);
        is("which replaces nothing", net.lesson(0, 0), 2);
        is("but is learned where there was none", net.lesson(2, 0), 0);
    }

    private void lessonOfNothing() {
        ChipNetwork net = loaded("grid 3 2;");
        is("the last ones", net.lesson(5, 8), NONE);
        noIndexFrom(6, "node", node -> net.lesson(node, 0));
        for (int link : new int[] {-1, 4, 7, 9, 10, 11, 12, LEAST, MOST}) {
            noIndex("link " + link, () -> net.lesson(0, link));
        }
        noIndex("link of one node", () -> new ChipNetwork().lesson(0, 0));
    }

    private void lessonsHold() {
        for (int stale : new int[] {1, 2, 5, 500, 501}) {
            ChipNetwork net = loaded("grid 2 1;stale " + stale + ";lesson 1 0 east;");
            is("at 0", net.lessons(1), 1);
            if (stale > 1) {
                net.tick(stale - 1);
                is("a tick before STALE " + stale, net.lessons(1), 1);
            }
            net.tick(1);
            is("at STALE " + stale, net.lessons(1), 0);
        }
        ChipNetwork longest = loaded("grid 2 1;stale 1000;lesson 1 0 east;");
        longest.tick(500);
        longest.tick(499);
        is("at 999", longest.lessons(1), 1);
        longest.tick(1);
        is("at 1000", longest.lessons(1), 0);
        ChipNetwork found = loaded("grid 2 1;stale 3;dead 0 east;");
        found.tick(7);
        found.send(0, 1, 9);
        found.tick(3);
        is("found at 7, at 9 and a tick on", found.count(3), 10);
        is("at 10", found.lessons(0), 0);
        found.undo();
        found.tick(2);
        is("at 9", found.lessons(0), 1);
    }

    private void oneOfEachLink() {
        ChipNetwork net = loaded("grid 2 2;lesson 3 0 east;lesson 3 1 west;lesson 3 0 east;");
        is("the same three times", net.lessons(3), 1);
        is("one more", loaded("grid 2 2;lesson 3 0 east;lesson 3 0 north;").lessons(3), 2);
    }

    private void numberOfLessons() {
        ChipNetwork net = taught();
        is("of 3", net.lessons(3), 2);
        is("of 1", net.lessons(1), 1);
        is("of 0", net.lessons(0), 0);
        StringBuilder all = new StringBuilder("grid 3 3;");
        for (int node = 0; node < 9; node++) {
            all.append(node % 3 < 2 ? "lesson 8 " + node + " east;" : "");
            all.append(node < 6 ? "lesson 8 " + node + " north;" : "");
        }
        is("of all links", loaded(all.toString()).lessons(8), 12);
        ChipNetwork ends = loaded("grid 6 6;lesson 35 34 east;lesson 0 0 east;");
        is("of the last node", ends.lessons(35), 1);
        is("of the one ahead of it", ends.lessons(34), 0);
        is("of the first one", ends.lessons(0), 1);
    }

    private void knowersHold() {
        ChipNetwork net = taught();
        net.tick(4);
        is("at 4", net.knowers(0), 2);
        net.tick(1);
        is("at 5", net.knowers(0), 0);
    }

    private void numberOfKnowers() {
        ChipNetwork net = taught();
        is("two", net.knowers(0), 2);
        is("one", net.knowers(1), 1);
        is("none", net.knowers(3), 0);
        is("the first node and the last one",
                loaded("grid 2 2;lesson 0 2 east;lesson 1 2 east;lesson 2 2 east;lesson 3 2 east;").knowers(4), 4);
    }

    private void knowersOfNoLink() {
        ChipNetwork net = loaded("grid 3 2;");
        for (int link : new int[] {-1, 4, 7, 9, 10, 11, 12, LEAST, MOST}) {
            noIndex("link " + link, () -> net.knowers(link));
        }
    }

    private void wrongLessonsHold() {
        ChipNetwork net = taught();
        net.tick(4);
        is("at 4", net.wrongLessons(3), 1);
        net.tick(1);
        is("at 5", net.wrongLessons(3), 0);
    }

    private void numberOfWrongLessons() {
        ChipNetwork net = taught();
        is("one of two", net.wrongLessons(3), 1);
        is("none of one", net.wrongLessons(1), 0);
        is("none of none", net.wrongLessons(0), 0);
        net.mend(0, 0);
        is("two of two", net.wrongLessons(3), 2);
        is("one of one", net.wrongLessons(1), 1);
        net.kill(0, 0);
        net.kill(0, 1);
        is("none of two", net.wrongLessons(3), 0);
    }

    private void wisestOfSeveral() {
        is("the only one, the last", loaded("grid 2 2;lesson 3 0 east;").wisest(), 3);
        is("the most", loaded("grid 2 2;lesson 1 0 east;lesson 3 0 east;lesson 3 0 north;").wisest(), 3);
        is("alike", loaded("grid 2 2;lesson 3 0 east;lesson 1 0 east;lesson 2 0 north;").wisest(), 1);
        is("node 0", loaded("grid 2 2;lesson 3 0 east;lesson 0 0 east;").wisest(), 0);
        ChipNetwork net = loaded("grid 2 2;stale 3;dead 0 east;lesson 3 0 east;lesson 3 0 north;");
        net.tick(2);
        net.send(0, 1, 9);
        net.tick(1);
        is("only lessons that hold count", net.wisest(), 0);
    }

    private void noWisest() {
        is("a new object", new ChipNetwork().wisest(), NONE);
        is("no lessons", loaded("grid 2 2;dead 0 east;").wisest(), NONE);
        ChipNetwork net = taught();
        net.tick(4);
        is("at 4", net.wisest(), 3);
        net.tick(1);
        is("at 5", net.wisest(), NONE);
    }

    private void nextToGo() {
        ChipNetwork net = taught();
        is("of TIME 0", net.nextStale(), 5);
        net.tick(4);
        net.send(0, 1, 9);
        is("a tick before", net.nextStale(), 5);
        net.tick(1);
        is("at 5 only that of 4 is left", net.nextStale(), 9);
        net.tick(3);
        is("a tick before 9", net.nextStale(), 9);
        is("the shortest", loaded("grid 2 1;stale 1;lesson 0 0 east;").nextStale(), 1);
        is("the longest", loaded("grid 2 1;stale 1000;lesson 0 0 east;").nextStale(), 1000);
        is("of the last node and link", loaded("grid 6 6;stale 8;lesson 35 34 east;").nextStale(), 8);
        ChipNetwork end = loaded("grid 2 1;stale 1000;dead 0 east;");
        for (int n = 0; n < 59; n++) {
            end.tick(500);
        }
        end.tick(499);
        end.send(0, 1, 9);
        end.tick(1);
        is("beyond the last TIME", end.nextStale(), 30999);
    }

    private void noNextToGo() {
        is("a new object", new ChipNetwork().nextStale(), NONE);
        is("no lessons", loaded("grid 2 2;dead 0 east;").nextStale(), NONE);
        ChipNetwork net = taught();
        net.tick(5);
        is("none that holds", net.nextStale(), NONE);
    }

    private void forgetsAll() {
        ChipNetwork net = loaded("grid 6 6;lesson 35 0 east;lesson 35 34 east;lesson 34 0 east;lesson 0 34 east;");
        is("the last node", net.forget(35), 2);
        is("its first link", net.lesson(35, 0), NONE);
        is("its last link", net.lesson(35, 68), NONE);
        is("the node ahead of it", net.lesson(34, 0), 0);
        is("the first node", net.lesson(0, 68), 0);
        is("the first node too", net.forget(0), 1);
        is("its last link", net.lesson(0, 68), NONE);
    }

    private void forgetsThoseThatHold() {
        ChipNetwork net = taught();
        is("none", net.forget(0), 0);
        is("two", net.forget(3), 2);
        is("none any more", net.forget(3), 0);
        net.tick(5);
        is("one that does not hold", net.forget(1), 0);
        is("it is gone as well", net.lesson(1, 0), NONE);
    }
}
