/** Boundary cases of promise 26: what a tick does with the packets. */
final class MoveBounds extends Bounds {
    MoveBounds(Book book) {
        super(book);
    }

    @Override
    void run() {
        book.test(26, "for each packet in the states 0 to 2, by numbers, one MOVE", this::byNumbers);
        book.test(26, "then TIME increases by 1", this::timeBehindMoves);
        book.test(26, "of the DIRECTIONS in order, one whose link exists", this::onlyLinksThatExist);
        book.test(26, "is not in its MAP", this::notInItsMap);
        book.test(26, "is not said to be dead by a lesson of AT that holds", this::lessonsOfAt);
        book.test(26, "leads to a node that is not VISITED", this::notVisited);
        book.test(26, "the one whose node has the least DISTANCE to TARGET", this::leastDistance);
        book.test(26, "of several the first one", this::firstOfSeveral);
        book.test(26, "if its link is dead, it comes into the MAP, and AT LEARNS it, both with this TIME", this::findsDead);
        book.test(26, "(it stays AT)", this::staysWhereItFinds);
        book.test(26, "HOPS grows by 1, the node is VISITED, and comes behind the TRAIL", this::goesOver);
        book.test(26, "If it is TARGET then, the state is 1", this::targetAheadOfLimit);
        book.test(26, "otherwise, if HOPS is LIMIT, the state is 2", this::limitOnTheWay);
        book.test(26, "if the TRAIL is SOURCE alone, the state is 4", this::noWayAtSource);
        book.test(26, "with HOPS one more (also if it is lost)", this::hopsOfAStepBack);
        book.test(26, "if HOPS is LIMIT then, and it is not lost, the state is 2", this::limitAtAStepBack);
        book.test(26, "if the TRAIL is SOURCE alone, the state is 3 or 4", this::home);
        book.test(26, "is dead, the packet is lost; it stays AT", this::lost);
        book.test(26, "Otherwise AT is that node, and leaves the end of the TRAIL", this::stepsBack);
        book.test(26, "if its state was 1 or 2 ahead of it, AT LEARNS each link of the MAP", this::teaches);
        book.test(26, "AT LEARNS each link of the MAP with its time", this::teachesWithTheTimeOfTheMap);
        book.test(26, "The states 3 to 5 are the last ones.", this::lastStates);
    }

    private void byNumbers() {
        ChipNetwork net = loaded("grid 2 2;dead 0 east;");
        net.send(0, 3, 9);
        net.send(0, 3, 9);
        net.tick(1);
        row("of the first, which finds the link dead", net, 0, GOING, 0, 0);
        row("of the second, which is told of it", net, 1, GOING, 2, 1);
        is("links the second found", net.packet(1, 8), 0);
        ChipNetwork states = loaded("grid 3 1;");
        states.send(0, 2, 9);
        states.send(0, 1, 9);
        states.send(0, 2, 1);
        states.tick(1);
        states.tick(1);
        row("going", states, 0, TELLING, 2, 2);
        row("telling", states, 1, TELLING, 0, 1);
        row("returning", states, 2, RETURNING, 0, 1);
    }

    private void timeBehindMoves() {
        ChipNetwork net = loaded("grid 2 2;stale 2;dead 0 east;lesson 0 0 north;");
        net.tick(1);
        net.send(0, 3, 9);
        net.tick(1);
        is("the MOVE was at 1", net.found(0, 0), 1);
        is("TIME is", net.count(3), 2);
        net.tick(1);
        row("at 2 the lesson of 0 held no more", net, 0, GOING, 2, 1);
    }

    private void onlyLinksThatExist() {
        ChipNetwork one = loaded("grid 2 1;");
        is("the last node", one.choice(one.send(1, 0, 9)), 2);
        ChipNetwork net = loaded("grid 6 6;");
        int[][] corners = {{0, 35, 0}, {5, 30, 1}, {30, 5, 0}, {35, 0, 2}};
        for (int[] corner : corners) {
            is("in corner " + corner[0], net.choice(net.send(corner[0], corner[1], 9)), corner[2]);
        }
        ChipNetwork row = loaded("grid 3 2;");
        row.send(2, 3, 9);
        row.tick(1);
        row("no way from the end of a row into the next row", row, 0, GOING, 5, 1);
    }

    /** With STALE 1 no lesson tells of the link a tick later. */
    private void notInItsMap() {
        ChipNetwork net = loaded("grid 2 1;stale 1;dead 0 east;");
        net.send(0, 1, 9);
        net.tick(1);
        row("found", net, 0, GOING, 0, 0);
        is("lessons that hold", net.lessons(0), 0);
        net.mend(0, 0);
        net.tick(1);
        row("though it is mended", net, 0, RETURNED, 0, 0);
    }

    private void lessonsOfAt() {
        ChipNetwork net = loaded("grid 2 1;stale 3;lesson 0 0 east;lesson 1 0 east;");
        net.tick(2);
        net.send(0, 1, 9);
        net.tick(1);
        row("at 2 it holds", net, 0, RETURNED, 0, 0);
        net.send(0, 1, 9);
        net.tick(1);
        row("at 3 it does not", net, 1, TELLING, 1, 1);
        ChipNetwork other = loaded("grid 3 1;lesson 0 1 east;lesson 2 1 east;lesson 1 0 east;");
        other.send(0, 2, 9);
        other.tick(2);
        row("lessons of other nodes, and about the link it came by", other, 0, TELLING, 2, 2);
    }

    private void notVisited() {
        ChipNetwork net = loaded("grid 3 2;dead 1 east;dead 1 north;");
        net.send(0, 2, 9);
        net.tick(4);
        row("back from a dead end", net, 0, GOING, 0, 2);
        is("it does not go there again", net.reason(0, 0), 4);
        is("but", net.choice(0), 1);
        ChipNetwork row = loaded("grid 3 1;dead 1 east;");
        row.send(0, 2, 9);
        row.tick(4);
        row("nor does it go round", row, 0, RETURNED, 0, 2);
    }

    private void leastDistance() {
        ChipNetwork net = loaded("grid 5 5;");
        int[][] due = {{14, 0}, {22, 1}, {10, 2}, {2, 3}, {17, 1}, {11, 2}};
        for (int[] one : due) {
            is("from 12 to " + one[0], net.choice(net.send(12, one[0], 9)), one[1]);
        }
        ChipNetwork away = loaded("grid 3 3;lesson 4 4 east;lesson 4 4 north;lesson 4 4 south;");
        is("also one that leads away", away.choice(away.send(4, 5, 9)), 2);
    }

    private void firstOfSeveral() {
        ChipNetwork net = loaded("grid 3 3;");
        is("east ahead of north", net.choice(net.send(4, 8, 9)), 0);
        is("east ahead of south", net.choice(net.send(4, 2, 9)), 0);
        is("north ahead of west", net.choice(net.send(4, 6, 9)), 1);
        is("west ahead of south", net.choice(net.send(4, 0, 9)), 2);
        ChipNetwork away = loaded("grid 3 3;lesson 4 4 north;");
        is("none nearer: east ahead of west and south", away.choice(away.send(4, 7, 9)), 0);
        ChipNetwork two = loaded("grid 3 3;lesson 4 4 north;lesson 4 4 east;");
        is("none nearer: west ahead of south", two.choice(two.send(4, 7, 9)), 2);
    }

    private void findsDead() {
        ChipNetwork net = loaded("grid 2 2;dead 0 east;");
        net.tick(5);
        net.send(0, 1, 9);
        net.tick(1);
        is("MAP", net.found(0, 0), 5);
        is("links in the MAP", net.packet(0, 8), 1);
        is("lesson of AT", net.lesson(0, 0), 5);
        is("lesson of the other node", net.lesson(1, 0), NONE);
        is("TIME", net.count(3), 6);
    }

    private void staysWhereItFinds() {
        ChipNetwork net = loaded("grid 2 2;dead 0 east;");
        net.send(0, 1, 1);
        net.tick(1);
        row("also with LIMIT 1", net, 0, GOING, 0, 0);
        is("TRAIL", net.packet(0, 6), 1);
        is("VISITED", net.packet(0, 7), 1);
        is("TARGET VISITED", net.isVisited(0, 1), false);
    }

    private void goesOver() {
        ChipNetwork net = loaded("grid 3 1;");
        net.send(0, 2, 9);
        net.tick(1);
        row("one step on", net, 0, GOING, 1, 1);
        is("VISITED", net.isVisited(0, 1), true);
        is("nodes VISITED", net.packet(0, 7), 2);
        is("end of the TRAIL", net.trail(0, 1), 1);
        is("SOURCE stays ahead of it", net.trail(0, 0), 0);
        is("nodes of the TRAIL", net.packet(0, 6), 2);
    }

    private void targetAheadOfLimit() {
        for (int limit = 1; limit <= 3; limit++) {
            ChipNetwork net = loaded("grid 6 1;");
            net.send(1, 1 + limit, limit);
            net.tick(limit);
            row("at TARGET with LIMIT " + limit, net, 0, TELLING, 1 + limit, limit);
        }
    }

    private void limitOnTheWay() {
        for (int limit = 1; limit <= 3; limit++) {
            ChipNetwork net = loaded("grid 6 1;");
            net.send(0, 5, limit);
            if (limit > 1) {
                net.tick(limit - 1);
                row("one hop below LIMIT " + limit, net, 0, GOING, limit - 1, limit - 1);
            }
            net.tick(1);
            row("at LIMIT " + limit, net, 0, RETURNING, limit, limit);
        }
    }

    private void noWayAtSource() {
        ChipNetwork net = loaded("grid 2 1;lesson 0 0 east;");
        net.send(0, 1, 9);
        net.tick(1);
        row("at once", net, 0, RETURNED, 0, 0);
        is("since", net.packet(0, 10), 0);
        ChipNetwork later = loaded("grid 3 1;dead 1 east;");
        later.send(0, 2, 9);
        later.tick(3);
        row("back at SOURCE it goes", later, 0, GOING, 0, 2);
        later.tick(1);
        row("and has no other way", later, 0, RETURNED, 0, 2);
        is("since 3", later.packet(0, 10), 3);
    }

    private void hopsOfAStepBack() {
        ChipNetwork net = loaded("grid 3 1;dead 1 east;");
        net.send(0, 2, 9);
        net.tick(2);
        row("in the dead end", net, 0, GOING, 1, 1);
        net.tick(1);
        row("one more", net, 0, GOING, 0, 2);
        net.undo();
        net.kill(0, 0);
        net.tick(1);
        row("one more though it is lost", net, 0, LOST, 1, 2);
        ChipNetwork home = loaded("grid 3 1;");
        home.send(0, 2, 9);
        home.tick(4);
        row("none more on the way home", home, 0, TELLING, 0, 2);
        home.undo();
        home.tick(2);
        home.kill(1, 0);
        home.tick(1);
        row("nor if it is lost there", home, 0, LOST, 2, 2);
    }

    private void limitAtAStepBack() {
        ChipNetwork net = loaded("grid 4 1;dead 2 east;");
        net.send(0, 3, 3);
        net.tick(4);
        row("at LIMIT 3", net, 0, RETURNING, 1, 3);
        ChipNetwork below = loaded("grid 4 1;dead 2 east;");
        below.send(0, 3, 4);
        below.tick(4);
        row("below LIMIT 4", below, 0, GOING, 1, 3);
        below.tick(1);
        row("at LIMIT 4, and at SOURCE", below, 0, RETURNING, 0, 4);
        below.tick(1);
        row("returned", below, 0, RETURNED, 0, 4);
        ChipNetwork lost = loaded("grid 4 1;dead 2 east;");
        lost.send(0, 3, 3);
        lost.tick(3);
        lost.kill(1, 0);
        lost.tick(1);
        row("lost at LIMIT 3", lost, 0, LOST, 2, 3);
    }

    private void home() {
        ChipNetwork net = loaded("grid 3 1;");
        net.send(0, 1, 9);
        net.send(0, 2, 1);
        net.tick(2);
        row("telling, at SOURCE", net, 0, TELLING, 0, 1);
        row("returning, at SOURCE", net, 1, RETURNING, 0, 1);
        net.tick(1);
        row("told", net, 0, TOLD, 0, 1);
        row("returned", net, 1, RETURNED, 0, 1);
        is("since, told", net.packet(0, 10), 2);
        is("since, returned", net.packet(1, 10), 2);
    }

    private void lost() {
        ChipNetwork net = loaded("grid 4 1;");
        net.send(0, 3, 9);
        net.send(0, 3, 2);
        net.tick(3);
        net.kill(0, 0);
        net.tick(1);
        row("telling, two links from it", net, 0, TELLING, 2, 3);
        row("returning, at it", net, 1, LOST, 1, 2);
        is("TRAIL stays", net.packet(1, 6), 2);
        is("end of the TRAIL", net.trail(1, 1), 1);
        is("since", net.packet(1, 10), 3);
        is("the link is not found", net.found(1, 0), NONE);
        is("nobody learns of it", net.knowers(0), 0);
        net.tick(2);
        row("telling, at it", net, 0, LOST, 1, 3);
        ChipNetwork behind = loaded("grid 4 1;");
        behind.send(0, 3, 9);
        behind.tick(4);
        behind.kill(2, 0);
        behind.tick(3);
        row("a dead link behind it", behind, 0, TOLD, 0, 3);
    }

    private void stepsBack() {
        ChipNetwork net = loaded("grid 4 1;");
        net.send(0, 3, 9);
        net.tick(4);
        row("one step", net, 0, TELLING, 2, 3);
        is("TRAIL", net.packet(0, 6), 3);
        is("the old end", net.trail(0, 3), NONE);
        is("the new end", net.trail(0, 2), 2);
        is("VISITED stays", net.packet(0, 7), 4);
        net.tick(2);
        row("three steps", net, 0, TELLING, 0, 3);
        is("TRAIL", net.packet(0, 6), 1);
    }

    private void teaches() {
        ChipNetwork net = loaded("grid 3 2;dead 1 east;");
        net.send(0, 2, 9);
        net.tick(5);
        row("at TARGET", net, 0, TELLING, 2, 4);
        is("only the finder knows", net.knowers(2), 1);
        net.forget(1);
        net.tick(1);
        is("one that tells teaches the node ahead", net.lesson(5, 2), 1);
        is("not TARGET", net.lesson(2, 2), NONE);
        net.tick(3);
        is("all on the way home", net.knowers(2), 4);
        net.forget(0);
        net.tick(1);
        row("told", net, 0, TOLD, 0, 4);
        is("that MOVE teaches nothing", net.lesson(0, 2), NONE);
        ChipNetwork limited = loaded("grid 3 2;dead 1 east;");
        limited.send(0, 2, 2);
        limited.tick(3);
        limited.forget(1);
        limited.tick(1);
        row("at LIMIT and a step home", limited, 0, RETURNING, 1, 2);
        is("one that returns teaches", limited.lesson(1, 2), 1);
        limited.tick(1);
        is("up to SOURCE", limited.lesson(0, 2), 1);
        ChipNetwork going = loaded("grid 3 1;dead 1 east;");
        going.send(0, 2, 2);
        going.tick(3);
        row("at LIMIT by a step back", going, 0, RETURNING, 0, 2);
        is("it went ahead of that step, and teaches nothing", going.lesson(0, 2), NONE);
    }

    private void teachesWithTheTimeOfTheMap() {
        ChipNetwork net = loaded("grid 3 2;dead 1 east;dead 1 north;");
        net.send(0, 2, 9);
        net.tick(8);
        row("at TARGET", net, 0, TELLING, 2, 6);
        is("a step back on the way there has taught nothing", net.lesson(0, 2), NONE);
        net.tick(1);
        is("the link found at 1", net.lesson(5, 2), 1);
        is("the link found at 2", net.lesson(5, 3), 2);
        is("no other", net.lessons(5), 2);
        is("TIME", net.count(3), 9);
    }

    private void lastStates() {
        ChipNetwork net = loaded("grid 4 1;lesson 3 3 west;");
        net.send(0, 1, 9);
        net.send(3, 0, 9);
        net.send(0, 2, 9);
        net.tick(3);
        net.kill(0, 0);
        net.tick(1);
        int[] due = {TOLD, RETURNED, LOST};
        for (int k = 0; k < due.length; k++) {
            is("state of " + k, net.packet(k, 3), due[k]);
        }
        net.mend(0, 0);
        net.forget(3);
        net.tick(500);
        for (int k = 0; k < due.length; k++) {
            is("state of " + k + " later", net.packet(k, 3), due[k]);
        }
        row("lost, later", net, 2, LOST, 1, 2);
        is("since, later", net.packet(2, 10), 3);
    }
}
