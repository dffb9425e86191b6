/** Promises 2 to 6: the input buffer, load() and its errors. */
public final class InputTest {
    private static final Check CHECK = new Check("InputTest");

    public static void main(String[] args) {
        append();
        truncate();
        loadTexts();
        loadReplaces();
        failedLoadKeeps();
        loadErrors();
        lowestCodeWins();
        errorIsOfTheLatest();
        CHECK.end();
    }

    // Promise 2
    private static void append() {
        ChipNetwork net = new ChipNetwork();
        for (int n = 1; n <= 50; n++) {
            CHECK.is("append " + n, net.appendInput(0x20202020, 0x20202020, 0x20202020, 0x20202020, 0x20202020), 20 * n);
        }
        CHECK.is("append to a full buffer", net.appendInput(1, 2, 3, 4, 5), ChipNetwork.NONE);
        CHECK.is("length then", net.truncateInput(1000), 1000);
        net.truncateInput(981);
        CHECK.is("append to 981", net.appendInput(0, 0, 0, 0, 0), ChipNetwork.NONE);
        net.truncateInput(980);
        CHECK.is("append to 980", net.appendInput(0x67726964, 0x2020203b, 0, 0, 0), 1000);
        CHECK.is("load", net.load(), ChipNetwork.TEXT_ERROR);
        CHECK.is("most significant byte first: grid at 980, ; at 987", net.errorPosition(), 987);
        ChipNetwork words = new ChipNetwork();
        words.appendInput(0x67726964, 0x20352034, 0x3b737461, 0x6c652037, 0x37203b0a);
        CHECK.is("grid 5 4;stale 77 ;", words.load(), 20);
        CHECK.is("stale 77", words.count(2), 77);
        ChipNetwork high = new ChipNetwork();
        high.appendInput(0x200aff20, 0, 0, 0, 0);
        high.load();
        CHECK.is("byte 255 is no token", 10 * high.errorPosition() + high.errorCode(), 21);
    }

    // Promise 3
    private static void truncate() {
        ChipNetwork net = new ChipNetwork();
        CHECK.is("truncate an empty buffer to 0", net.truncateInput(0), 0);
        CHECK.is("truncate an empty buffer to 1", net.truncateInput(1), ChipNetwork.NONE);
        net.appendInput(0x67726964, 0x20322033, 0x3b393939, 0, 0);
        CHECK.is("truncate to 21", net.truncateInput(21), ChipNetwork.NONE);
        CHECK.is("truncate to -1", net.truncateInput(-1), ChipNetwork.NONE);
        CHECK.is("truncate to 20", net.truncateInput(20), 20);
        CHECK.is("truncate to 9", net.truncateInput(9), 9);
        CHECK.is("truncate to 10", net.truncateInput(10), ChipNetwork.NONE);
        CHECK.is("the first bytes stay", net.load(), 6);
        CHECK.is("load empties the buffer", net.truncateInput(1), ChipNetwork.NONE);
    }

    // Promise 4
    private static void loadTexts() {
        CHECK.is("no text", Check.loaded("").count(4), 0);
        CHECK.is("blanks alone", Check.loaded(" \n ").count(2), 50);
        CHECK.is("no blanks that are not needed", Check.loaded("grid6 6;stale1000;dead35west;").count(5), 1);
        CHECK.is("line feeds", Check.loaded("grid\n6\n1\n;\nstale 1\n;").count(0), 6);
        CHECK.is("leading zeros", Check.loaded("grid 00003 02;").count(4), 7);
        CHECK.is("without a grid one node", Check.loaded("stale 3;").count(1), 1);
        ChipNetwork net = Check.loaded("grid 2 2;lesson 3 0 north;lesson 3 2 south;lesson 1 3 west;dead 3 south;");
        CHECK.is("lesson of 3 about link 1", net.lesson(3, 1), 0);
        CHECK.is("twice the same lesson", net.lessons(3), 1);
        CHECK.is("lesson of 1 about link 4", net.lesson(1, 4), 0);
        CHECK.is("dead 3 south", net.isDead(3), true);
        CHECK.is("dead links", net.count(5), 1);
        StringBuilder all = new StringBuilder("grid 6 6;");
        for (int node = 0; node < 35; node++) {
            all.append(node % 6 < 5 ? "dead " + node + " east;" : "");
            all.append(node < 30 ? "dead " + node + " north;" : "");
        }
        CHECK.is("all links dead", Check.loaded(all.toString()).count(5), 60);
    }

    private static void loadReplaces() {
        ChipNetwork net = Check.loaded("grid 3 3;stale 9;dead 0 east;lesson 1 0 east;");
        net.send(0, 8, 20);
        net.tick(3);
        net.write(0);
        net.saveSnapshot(0);
        net.saveSnapshot(1);
        net.stateIn(0, 40);
        Check.put(net, "grid 3 2;");
        CHECK.is("second load", net.load(), 6);
        int[] due = {3, 2, 50, 0, 7, 0, 0, 0, 0, 0, 0, 0};
        for (int what = 0; what < due.length; what++) {
            CHECK.is("count " + what + " then", net.count(what), due[what]);
        }
        CHECK.is("lesson is gone", net.lesson(1, 0), ChipNetwork.NONE);
        CHECK.is("nothing to undo", net.undo(), ChipNetwork.NONE);
        CHECK.is("no snapshot 0", net.restoreSnapshot(0), false);
        CHECK.is("no snapshot 1", net.restoreSnapshot(1), false);
        CHECK.is("the output is not of the text", net.outputByte(0), '0');
        Check.put(net, "");
        CHECK.is("an empty text replaces too", net.load(), 1);
        for (int stale = 7; stale < 9; stale++) {
            Check.put(net, "stale " + stale + ";");
            CHECK.is("each text has a stale of its own", net.load(), 1);
            CHECK.is("STALE", net.count(2), stale);
        }
    }

    private static void failedLoadKeeps() {
        ChipNetwork net = Check.loaded("grid 3 3;stale 9;dead 0 east;lesson 1 0 east;");
        net.send(0, 8, 20);
        net.tick(3);
        net.saveSnapshot(1);
        int digest = net.digest();
        Check.put(net, "grid 2 2;stale 4;dead 0 north;lesson 2 0 east;dead 0 north;");
        CHECK.is("twice dead", net.load(), ChipNetwork.TEXT_ERROR);
        CHECK.is("buffer is empty", net.truncateInput(1), ChipNetwork.NONE);
        CHECK.is("digest stays", net.digest(), digest);
        CHECK.is("width stays", net.count(0), 3);
        CHECK.is("STALE stays", net.count(2), 9);
        CHECK.is("lesson stays", net.lesson(1, 0), 0);
        CHECK.is("undo stays", net.count(11), 2);
        CHECK.is("forecast is of what stayed", net.stateIn(0, 40), 3);
        CHECK.is("snapshot stays", net.restoreSnapshot(1), true);
    }

    private static void error(String text, int code, int position) {
        ChipNetwork net = new ChipNetwork();
        Check.put(net, text);
        CHECK.is(text, net.load(), ChipNetwork.TEXT_ERROR);
        CHECK.is("code of " + text, net.errorCode(), code);
        CHECK.is("position of " + text, net.errorPosition(), position);
    }

    // Promises 4 to 6
    private static void loadErrors() {
        error("grid", 1, 4);
        error("grid 2 2  ", 1, 10);
        error("grid 2 2 2;", 1, 9);
        error("grid;", 1, 4);
        error("grid two", 1, 5);
        error(";", 1, 0);
        error("grid 2 2;;", 1, 9);
        error("5;", 1, 0);
        error("gird 2 2;", 1, 0);
        error("send 0 1 5;", 1, 0);
        error("east", 1, 0);
        error("stale 5;A", 1, 8);
        error("stale 5\t;", 1, 7);
        error("Grid 2 2;", 1, 0);
        error("stale -5;", 1, 6);
        error("stales 5;", 1, 0);
        error("stalez 5;", 1, 0);
        error("astale 5;", 1, 0);
        error("stale{5;", 1, 5);
        error("dead 0 up;", 1, 7);
        error("dead 0 0;", 1, 7);
        error("dead east;", 1, 5);
        error("grid 2 1;dead 0 eastt;", 1, 16);
        error("grid 2 1;dead 0 east east;", 1, 21);
        error("grid 2 1;lesson 0 east;", 1, 18);
        error("grid 2 1;lesson 0 0 east", 1, 24);
        error("grid 0 1;", 2, 5);
        error("grid 7 1;", 2, 5);
        error("grid 6 0;", 2, 7);
        error("grid 6 7;", 2, 7);
        error("grid 99999 1;", 2, 5);
        error("stale 0;", 2, 6);
        error("stale 1001;", 2, 6);
        error("dead 1 east;", 2, 5);
        error("grid 2 3;dead 6 east;", 2, 14);
        error("grid 2 3;lesson 6 0 east;", 2, 16);
        error("grid 2 3;lesson 0 6 east;", 2, 18);
        error("dead 0 north;", 3, 7);
        error("grid 6 6;dead 35 east;", 3, 17);
        error("grid 6 6;dead 35 north;", 3, 17);
        error("grid 6 6;dead 0 west;", 3, 16);
        error("grid 6 6;dead 0 south;", 3, 16);
        error("grid 6 6;dead 5 east;", 3, 16);
        error("grid 6 6;lesson 0 6 west;", 3, 20);
        error("stale 5;grid 2 2;", 4, 8);
        error("grid 2 2;grid 2 2;", 4, 9);
        error("grid 2 2;stale 5; stale 5;", 4, 18);
        error("grid 2 2;dead 0 east;dead 1 west;", 4, 28);
    }

    private static void lowestCodeWins() {
        error("grid 000002 2;", 1, 5);
        error("stale 100000;", 1, 6);
        error("abcdefghi", 1, 0);
        error("grid 2 2;dead 0 east;dead 1 south;", 3, 28);
        error("grid 9 A", 2, 5);
        error("dead 5 up", 2, 5);
        error("grid 2 2;dead 0 east;dead 0 eas;", 1, 28);
    }

    private static void errorIsOfTheLatest() {
        ChipNetwork net = new ChipNetwork();
        CHECK.is("code at first", net.errorCode(), 0);
        CHECK.is("position at first", net.errorPosition(), ChipNetwork.NONE);
        Check.put(net, "stale 0;");
        net.load();
        CHECK.is("code of load", net.errorCode(), 2);
        CHECK.is("play of no text", net.play(), 0);
        CHECK.is("code of play", net.errorCode(), 0);
        CHECK.is("position of play", net.errorPosition(), ChipNetwork.NONE);
        CHECK.is("play with an error", Check.played(net, "tick 501;"), ChipNetwork.TEXT_ERROR);
        CHECK.is("code of the script", net.errorCode(), 2);
        CHECK.is("position in the script", net.errorPosition(), 5);
        CHECK.is("other calls leave it", net.tick(1), 1);
        CHECK.is("code still", net.errorCode(), 2);
        net.load();
        CHECK.is("code of a good load", net.errorCode(), 0);
        CHECK.is("position of a good load", net.errorPosition(), ChipNetwork.NONE);
        CHECK.is("a command that fails is no error of the text", Check.played(net, "send 0 1 1;"), 0);
        CHECK.is("code then", net.errorCode(), 0);
    }
}
