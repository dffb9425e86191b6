/** Boundary cases of promise 52: play. */
final class ScriptBounds extends Bounds {
    ScriptBounds(Book book) {
        super(book);
    }

    @Override
    void run() {
        book.test(52, "a sequence of at most 40 commands, perhaps none", this::numbersOfCommands);
        book.test(52, "which do what the methods of these names do", this::commands);
        book.test(52, "A WAY is one of the words east, north, west and south.", this::ways);
        book.test(52, "(NODE 0 to 35, LIMIT 1 to 200, N 1 to 500)", this::ranges);
        book.test(52, "A command fails if its method throws an exception", this::commandsThatThrow);
        book.test(52, "or returns an error code", this::commandsWithErrorCodes);
        book.test(52, "then the script ends, and what was done stays done", this::endsAtAFault);
        book.test(52, "Returns the number of commands that were done, the one that failed not included", this::numberDone);
        book.test(52, "TEXT_ERROR if the text has an error (then only the buffer and the error change)", this::errorDoesNothing);
        book.test(52, "load() and play() read it and empty it, also on an error", this::playEmptiesBuffer);
        book.test(52, "(also by a script, each on its own)", this::eachCanBeUndone);
    }

    private void numbersOfCommands() {
        is("none", new ChipNetwork().play(), 0);
        is("blanks", Check.played(new ChipNetwork(), " \n "), 0);
        is("one", Check.played(new ChipNetwork(), "tick 1;"), 1);
        ChipNetwork net = new ChipNetwork();
        is("40", Check.played(net, times(40, "tick 2;")), 40);
        is("all were done", net.count(3), 80);
        is("41", Check.played(net, times(41, "tick 2;")), TEXT_ERROR);
        is("none was done", net.count(3), 80);
        is("fewer then", Check.played(net, "tick 1;tick 1;"), 2);
        is("and no more were done", net.count(3), 82);
    }

    private void commands() {
        ChipNetwork net = loaded("grid 2 2;lesson 3 0 east;");
        is("send", Check.played(net, "send 0 3 7;"), 1);
        int[] due = {0, 3, 7, GOING};
        for (int what = 0; what < due.length; what++) {
            is("packet 0 " + what, net.packet(0, what), due[what]);
        }
        is("kill", Check.played(net, "kill 0 east;kill 1 north;kill 2 south;kill 3 west;"), 4);
        is("dead", net.count(5), 4);
        is("mend", Check.played(net, "mend 1 west;mend 3 south;mend 0 north;mend 2 east;"), 4);
        is("dead then", net.count(5), 0);
        is("tick", Check.played(net, "tick 1;"), 1);
        row("then", net, 0, GOING, 1, 1);
        is("forget", Check.played(net, "forget 3;"), 1);
        is("lesson", net.lesson(3, 0), NONE);
    }

    private void ways() {
        String[] words = {"east", "north", "west", "south"};
        int[] due = {8, 9, 6, 3};
        for (int way = 0; way < 4; way++) {
            ChipNetwork net = loaded("grid 3 3;");
            is("kill 4 " + words[way], Check.played(net, "kill 4 " + words[way] + ";"), 1);
            is("link", net.isDead(due[way]), true);
            is("mend 4 " + words[way], Check.played(net, "mend 4 " + words[way] + ";"), 1);
            is("link then", net.isDead(due[way]), false);
        }
        for (String word : new String[] {"e", "easts", "up", "norths", "wes", "souths", "kill"}) {
            is("kill 4 " + word, Check.played(loaded("grid 3 3;"), "kill 4 " + word + ";"), TEXT_ERROR);
        }
    }

    private void ranges() {
        ChipNetwork net = loaded("grid 6 6;");
        is("least and greatest", Check.played(net, "send 0 35 1;send 35 0 200;tick 1;tick 500;kill 35 west;mend 35 west;"
                + "kill 0 east;mend 0 east;forget 0;forget 35;"), 10);
        is("LIMIT 1", net.packet(0, 2), 1);
        is("LIMIT 200", net.packet(1, 2), 200);
        is("TIME", net.count(3), 501);
        String[] wrong = {"send 36 0 1;", "send 0 36 1;", "send 0 1 0;", "send 0 1 201;", "tick 0;", "tick 501;",
            "kill 36 west;", "mend 36 west;", "forget 36;"};
        for (String text : wrong) {
            is(text, Check.played(net, text), TEXT_ERROR);
            is("code of " + text, net.errorCode(), 2);
        }
    }

    private void commandsThatThrow() {
        ChipNetwork net = loaded("grid 5 6;");
        is("send, no source", Check.played(net, "send 30 0 5;"), 0);
        is("send, no target", Check.played(net, "send 0 35 5;"), 0);
        is("kill, no node", Check.played(net, "kill 30 west;"), 0);
        is("mend, no node", Check.played(net, "mend 35 west;"), 0);
        is("forget, no node", Check.played(net, "forget 30;"), 0);
        is("the last node", Check.played(net, "send 29 0 5;kill 29 west;mend 29 west;forget 29;"), 4);
        is("code", net.errorCode(), 0);
    }

    private void commandsWithErrorCodes() {
        ChipNetwork net = loaded("grid 2 1;");
        is("same nodes", Check.played(net, "send 1 1 5;"), 0);
        is("no link to kill", Check.played(net, "kill 1 east;"), 0);
        is("no link to mend", Check.played(net, "mend 0 north;"), 0);
        is("alive", Check.played(net, "mend 0 east;"), 0);
        is("dead", Check.played(net, "kill 0 east;kill 1 west;"), 1);
        is("25 packets", Check.played(net, times(25, "send 0 1 5;")), 24);
        for (int n = 0; n < 59; n++) {
            net.tick(500);
        }
        is("30000", Check.played(net, "tick 500;tick 1;"), 1);
        is("30001", Check.played(net, "tick 1;"), 0);
        is("code", net.errorCode(), 0);
        is("a command that answers 0 does not fail", Check.played(loaded("grid 2 1;dead 0 east;"),
                "forget 0;send 0 1 5;mend 0 east;"), 3);
    }

    private void endsAtAFault() {
        ChipNetwork net = loaded("grid 2 2;");
        is("done", Check.played(net, "tick 3;kill 0 east;kill 0 east;tick 5;forget 0;"), 2);
        is("TIME", net.count(3), 3);
        is("dead", net.isDead(0), true);
        is("calls to undo", net.count(11), 2);
        is("the others are not done later", Check.played(net, ""), 0);
        is("TIME then", net.count(3), 3);
    }

    private void numberDone() {
        ChipNetwork net = loaded("grid 2 2;");
        is("the first one fails", Check.played(net, "send 0 0 5;tick 1;"), 0);
        is("the second one", Check.played(net, "tick 1;send 0 0 5;tick 1;"), 1);
        is("the last one", Check.played(net, "tick 1;tick 1;send 0 0 5;"), 2);
        is("the 40th", Check.played(net, times(39, "tick 1;") + "send 0 4 5;"), 39);
        is("none", Check.played(net, times(39, "tick 1;") + "send 0 3 5;"), 40);
    }

    private void errorDoesNothing() {
        ChipNetwork net = loaded("grid 2 2;");
        net.tick(3);
        int digest = net.digest();
        String[] wrong = {"tick 1;tick", "tick 1;tick 501;", "kill 0 east;x", "send 0 1 5;send 0 1 0;", "forget 0;forget 0",
            times(41, "kill 0 east;")};
        for (String text : wrong) {
            is(text, Check.played(net, text), TEXT_ERROR);
            is("digest", net.digest(), digest);
            is("calls to undo", net.count(11), 1);
        }
    }

    private void playEmptiesBuffer() {
        ChipNetwork net = new ChipNetwork();
        for (String text : new String[] {"tick 1;", "send 0 0 5;tick 1;", "tock", times(1000, "?"), times(1000, " ")}) {
            Check.played(net, text);
            is("1 byte behind " + text, net.truncateInput(1), NONE);
            is("again", net.play(), 0);
            is("room", net.appendInput(0, 0, 0, 0, 0), 20);
        }
    }

    private void eachCanBeUndone() {
        ChipNetwork net = loaded("grid 2 2;");
        Check.played(net, "send 0 3 9;tick 2;kill 0 east;mend 0 east;forget 1;kill 1 east;");
        is("calls to undo", net.count(11), 5);
        net.undo();
        is("forget undone", net.isDead(0), false);
        net.undo();
        is("mend undone", net.isDead(0), true);
        net.undo();
        is("kill undone", net.isDead(0), false);
        net.undo();
        is("tick undone", net.count(3), 0);
        is("send undone", net.undo() + net.count(6), 0);
        Check.played(net, times(40, "tick 1;"));
        is("the latest 12 of 40", net.count(11), 12);
        for (int n = 11; n >= 0; n--) {
            is("left", net.undo(), n);
        }
        is("TIME", net.count(3), 28);
    }
}
