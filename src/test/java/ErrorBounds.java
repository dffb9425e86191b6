/** Boundary cases of promises 5 and 6, and the ERRORS of load() and play(). */
final class ErrorBounds extends Bounds {
    private static final String FORTY = times(40, "tick 1;");

    ErrorBounds(Book book) {
        super(book);
    }

    @Override
    void run() {
        book.test(5, "0 if the text had no error, or if there was none", this::noCode);
        book.test(5, "Returns 1 to 5", this::allCodes);
        book.test(5, "Returns the error code of the latest load() or play().", this::latestCode);
        book.test(5, "1 syntax: something that is not a token", this::noTokens);
        book.test(5, "(also a word or number that is too long)", this::tooLong);
        book.test(5, "a token that is not allowed at its place", this::wrongPlaces);
        book.test(5, "2 range: a number outside its range", this::ranges);
        book.test(5, "(in load() also a node that there is not)", this::noNodes);
        book.test(5, "3 link: in load(), a WAY in which the node has no link", this::noLinks);
        book.test(5, "4 twice: a grid that is not the first statement", this::secondGrid);
        book.test(5, "the word of a second stale", this::secondStale);
        book.test(5, "the WAY of a link that is dead already", this::deadTwice);
        book.test(5, "5 limit: the first word of a 41st command", this::command41);
        book.test(5, "if several codes apply to a token, the lowest one is reported", this::lowestCode);
        book.test(5, "The first error is reported, from left to right", this::firstError);
        book.test(6, "NONE if the text had no error, or if there was none", this::noPosition);
        book.test(6, "Returns the error position of the latest load() or play().", this::latestPosition);
        book.test(6, "Returns the position", this::lastPlace);
        book.test(6, "the index of the first byte of the token concerned", this::firstByteOfToken);
        book.test(6, "or the length of the text if it ends too early", this::endsTooEarly);
    }

    private void loadError(String text, int code, int position) {
        ChipNetwork net = new ChipNetwork();
        Check.put(net, text);
        is("load of " + text, net.load(), TEXT_ERROR);
        is("code of " + text, net.errorCode(), code);
        is("position of " + text, net.errorPosition(), position);
    }

    private void playError(String text, int code, int position) {
        ChipNetwork net = loaded("grid 2 2;");
        is("play of " + text, Check.played(net, text), TEXT_ERROR);
        is("code of " + text, net.errorCode(), code);
        is("position of " + text, net.errorPosition(), position);
    }

    private void noCode() {
        ChipNetwork net = new ChipNetwork();
        is("at first", net.errorCode(), 0);
        Check.put(net, "A");
        is("only put in", net.errorCode(), 0);
        net.truncateInput(0);
        is("load", net.load(), 1);
        is("of a text without errors", net.errorCode(), 0);
        is("play", net.play(), 0);
        is("of a script without errors", net.errorCode(), 0);
        is("a command that fails", Check.played(net, "send 0 1 5;"), 0);
        is("is no error", net.errorCode(), 0);
    }

    private void allCodes() {
        loadError("x", 1, 0);
        loadError("stale 0;", 2, 6);
        loadError("dead 0 east;", 3, 7);
        loadError("stale 1;stale 1;", 4, 8);
        playError(FORTY + "tick 1;", 5, 280);
    }

    private void latestCode() {
        ChipNetwork net = new ChipNetwork();
        Check.put(net, "dead 0 east;");
        net.load();
        is("of load", net.errorCode(), 3);
        Check.played(net, "tick 501;");
        is("of play", net.errorCode(), 2);
        net.tick(1);
        net.undo();
        is("other calls leave it", net.errorCode(), 2);
        Check.played(net, "tick 1;");
        is("of play without errors", net.errorCode(), 0);
        Check.played(net, "tick x;");
        is("of play again", net.errorCode(), 1);
        net.load();
        is("of load without errors", net.errorCode(), 0);
    }

    private void noTokens() {
        for (char sign : new char[] {0, 9, 11, 13, 31, 33, '+', ':', 'A', 'Z', '`', '{', 127, 128, 255}) {
            loadError("" + sign, 1, 0);
            loadError("stale 5" + sign + ";", 1, 7);
            playError("tick 1;" + sign, 1, 7);
            playError("tick " + sign + ";", 1, 5);
        }
    }

    private void tooLong() {
        loadError("stale 000005;", 1, 6);
        loadError("grid 2 000002;", 1, 7);
        loadError("stalestal 5;", 1, 0);
        playError("tick 000001;", 1, 5);
        playError("send 0 1 100000;", 1, 9);
        playError("forgetting 1;", 1, 0);
        playError("kill 0 northnorth;", 1, 7);
    }

    private void wrongPlaces() {
        loadError(";", 1, 0);
        loadError("5", 1, 0);
        loadError("east", 1, 0);
        loadError("send 0 1 5;", 1, 0);
        loadError("tick 1;", 1, 0);
        loadError("grid ;", 1, 5);
        loadError("grid 2;", 1, 6);
        loadError("grid 2 2 2;", 1, 9);
        loadError("grid 2 2 stale 5;", 1, 9);
        loadError("stale east;", 1, 6);
        loadError("stale 5;;", 1, 8);
        loadError("dead east 0;", 1, 5);
        loadError("grid 2 1;dead 0 1;", 1, 16);
        loadError("grid 2 1;dead 0 east east;", 1, 21);
        loadError("grid 2 1;lesson 0 east;", 1, 18);
        loadError("grid 2 1;lesson 0 0;", 1, 19);
        loadError("grid 2 1;lesson 0 0 up;", 1, 20);
        loadError("grid 2 1;lesson 0 0 east 1;", 1, 25);
        playError(";", 1, 0);
        playError("1", 1, 0);
        playError("west", 1, 0);
        playError("grid 2 2;", 1, 0);
        playError("stale 5;", 1, 0);
        playError("tick;", 1, 4);
        playError("tick 1 1;", 1, 7);
        playError("tick one;", 1, 5);
        playError("send 0 1;", 1, 8);
        playError("send 0 1 5 5;", 1, 11);
        playError("send east 1 5;", 1, 5);
        playError("kill 0;", 1, 6);
        playError("kill 0 5;", 1, 7);
        playError("kill north 0;", 1, 5);
        playError("mend 0 north 1;", 1, 13);
        playError("forget;", 1, 6);
        playError("forget 0 east;", 1, 9);
        playError("tick 1;;", 1, 7);
    }

    private void ranges() {
        loadError("grid 0 1;", 2, 5);
        loadError("grid 7 1;", 2, 5);
        loadError("grid 1 0;", 2, 7);
        loadError("grid 1 7;", 2, 7);
        loadError("stale 0;", 2, 6);
        loadError("stale 1001;", 2, 6);
        playError("tick 0;", 2, 5);
        playError("tick 501;", 2, 5);
        playError("send 36 0 1;", 2, 5);
        playError("send 0 36 1;", 2, 7);
        playError("send 0 1 0;", 2, 9);
        playError("send 0 1 201;", 2, 9);
        playError("kill 36 east;", 2, 5);
        playError("mend 36 east;", 2, 5);
        playError("forget 36;", 2, 7);
        playError("forget 99999;", 2, 7);
    }

    private void noNodes() {
        loadError("dead 1 east;", 2, 5);
        loadError("lesson 1 0 east;", 2, 7);
        loadError("grid 2 3;dead 6 east;", 2, 14);
        loadError("grid 2 3;lesson 6 0 east;", 2, 16);
        loadError("grid 2 3;lesson 0 6 east;", 2, 18);
        loadError("grid 6 6;dead 36 west;", 2, 14);
        is("the last node is one", loaded("grid 2 3;dead 5 west;lesson 5 5 south;").count(5), 1);
        is("a script's node that there is not is no error of the text", Check.played(loaded("grid 2 3;"), "forget 6;"), 0);
    }

    private void noLinks() {
        loadError("dead 0 east;", 3, 7);
        loadError("dead 0 north;", 3, 7);
        loadError("dead 0 west;", 3, 7);
        loadError("dead 0 south;", 3, 7);
        loadError("grid 3 2;dead 2 east;", 3, 16);
        loadError("grid 3 2;dead 3 west;", 3, 16);
        loadError("grid 3 2;dead 4 north;", 3, 16);
        loadError("grid 3 2;dead 1 south;", 3, 16);
        loadError("grid 3 2;lesson 0 5 east;", 3, 20);
        loadError("grid 3 2;lesson 0 0 west", 3, 20);
        is("a script's WAY without a link is no error of the text", Check.played(loaded("grid 2 1;"), "kill 1 east;"), 0);
    }

    private void secondGrid() {
        loadError("grid 1 1;grid 1 1;", 4, 9);
        loadError("stale 1;grid 1 1;", 4, 8);
        loadError("stale 1; grid", 4, 9);
    }

    private void secondStale() {
        loadError("stale 1;stale 1;", 4, 8);
        loadError("grid 2 1;stale 9;dead 0 east;stale;", 4, 29);
    }

    private void deadTwice() {
        loadError("grid 2 2;dead 0 east;dead 0 east;", 4, 28);
        loadError("grid 2 2;dead 0 east;dead 1 west;", 4, 28);
        loadError("grid 2 2;dead 2 south;dead 0 north", 4, 29);
        is("lessons twice are none", loaded("grid 2 1;lesson 0 0 east;lesson 0 1 west;").lessons(0), 1);
    }

    private void command41() {
        is("the 40th is none", Check.played(new ChipNetwork(), FORTY), 40);
        playError(FORTY + "tick 1;", 5, 280);
        playError(FORTY + " \nsend", 5, 282);
        playError(FORTY + "kill 99 up", 5, 280);
        playError(FORTY + "mend;", 5, 280);
        playError(FORTY + "forget", 5, 280);
        playError(times(100, "tick 1;"), 5, 280);
    }

    private void lowestCode() {
        playError(FORTY + "tock 1;", 1, 280);
        playError(FORTY + "grid", 1, 280);
        playError(FORTY + "1", 1, 280);
        playError(FORTY + ";", 1, 280);
        playError(FORTY + "?", 1, 280);
        playError(FORTY + "ticktickt 1;", 1, 280);
        playError("tick 100000;", 1, 5);
        loadError("grid 100000 1;", 1, 5);
        loadError("dead 0 eastt;", 1, 7);
        loadError("stale 5;gridd 1 1;", 1, 8);
    }

    private void firstError() {
        loadError("grid 0 0;", 2, 5);
        loadError("grid 9 A", 2, 5);
        loadError("dead 0 east;?", 3, 7);
        loadError("stale 0;stale 0;", 2, 6);
        loadError("stale 1;stale 1001;", 4, 8);
        loadError("dead 1 up;", 2, 5);
        playError("tick 501;tock", 2, 5);
        playError("send 36 36 0", 2, 5);
        playError("kill 0 up;tick 0;", 1, 7);
        playError(FORTY.substring(7) + "tick 0;tick 1;", 2, 278);
    }

    private void noPosition() {
        ChipNetwork net = new ChipNetwork();
        is("at first", net.errorPosition(), NONE);
        Check.put(net, "x");
        is("only put in", net.errorPosition(), NONE);
        net.load();
        is("of an error at 0", net.errorPosition(), 0);
        net.load();
        is("of load without errors", net.errorPosition(), NONE);
        Check.played(net, "x");
        is("of an error at 0 of a script", net.errorPosition(), 0);
        is("a command that fails", Check.played(net, "tick 1;send 0 1 5;"), 1);
        is("is no error", net.errorPosition(), NONE);
    }

    private void latestPosition() {
        ChipNetwork net = new ChipNetwork();
        Check.put(net, "stale 0;");
        net.load();
        is("of load", net.errorPosition(), 6);
        Check.played(net, "tick 501;");
        is("of play", net.errorPosition(), 5);
        Check.put(net, "grid 1 7;");
        is("only put in", net.errorPosition(), 5);
        net.load();
        is("of load again", net.errorPosition(), 7);
    }

    private void lastPlace() {
        loadError(times(999, " ") + "x", 1, 999);
        loadError(times(991, " ") + "stale 0;", 2, 997);
        playError(times(999, " ") + "x", 1, 999);
    }

    private void firstByteOfToken() {
        loadError("  stale   01001 ;", 2, 10);
        loadError("\nstale\n5\n;\nstale", 4, 11);
        loadError("grid 3 2;dead 2   east;", 3, 18);
        loadError("grid3 2;dead2north;dead5south;", 4, 24);
        playError("tick  00501;", 2, 6);
        playError("kill 0eastern;", 1, 6);
    }

    private void endsTooEarly() {
        for (String text : new String[] {"grid", "grid 2", "grid 2 2", "grid 2 2 \n ", "stale", "stale 5 ", "stale 5;dead",
            "grid 2 1;dead 0", "grid 2 1;dead 0 east", "grid 2 1;lesson", "grid 2 1;lesson 0", "grid 2 1;lesson 0 1",
            "grid 2 1;lesson 0 1 west "}) {
            loadError(text, 1, text.length());
        }
        for (String text : new String[] {"send", "send 0", "send 0 1", "send 0 1 5", "tick", "tick 1", "tick 1  ", "kill",
            "kill 0", "kill 0 east", "mend 0 east\n", "forget", "forget 0", "tick 1;forget 0"}) {
            playError(text, 1, text.length());
        }
        loadError(times(995, " ") + "stale", 1, 1000);
    }
}
