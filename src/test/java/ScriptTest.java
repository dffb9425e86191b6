/** Promise 52: play. */
public final class ScriptTest {
    private static final Check CHECK = new Check("ScriptTest");

    public static void main(String[] args) {
        play();
        failingCommands();
        fortyCommands();
        errors();
        CHECK.end();
    }

    private static void play() {
        ChipNetwork net = Check.loaded("grid 3 2;lesson 5 0 east;");
        CHECK.is("no text", net.play(), 0);
        CHECK.is("all commands", Check.played(net, "send 0 5 9;kill 0 east ;tick 2;\nforget5;mend 1 west;kill 4north;"), 5);
        CHECK.is("sent", net.count(6), 1);
        CHECK.is("ticks", net.count(3), 2);
        CHECK.is("forgotten", net.lesson(5, 0), ChipNetwork.NONE);
        CHECK.is("killed and mended", net.isDead(0), false);
        CHECK.is("each can be undone", net.count(11), 5);
        CHECK.is("the buffer is empty", net.truncateInput(1), ChipNetwork.NONE);
        CHECK.is("one step back", net.undo(), 4);
        CHECK.is("not mended", net.isDead(0), true);
        CHECK.is("second step back", net.undo(), 3);
        CHECK.is("not forgotten", net.lesson(5, 0), 0);
        CHECK.is("third step back", net.undo(), 2);
        CHECK.is("no ticks", net.count(3), 0);
        Check.put(net, "kill 0 north; kill 2 west; tick 1;");
        CHECK.is("play again", net.play(), 3);
        CHECK.is("dead links", net.count(5), 3);
        CHECK.is("ways", net.isDead(1) && net.isDead(2), true);
        CHECK.is("two sent", Check.played(net, "send 0 1 7;send 3 4 200;"), 2);
        CHECK.is("first LIMIT", net.packet(1, 2), 7);
        CHECK.is("second LIMIT", net.packet(2, 2), 200);
        CHECK.is("of a longer script ahead of it nothing is left", Check.played(net, "tick 1;"), 1);
        CHECK.is("TIME", net.count(3), 2);
        CHECK.is("south and west", Check.played(net, "mend 3 south;mend 1 west;mend 1 east;tick 500;"), 4);
        CHECK.is("none dead", net.count(5), 0);
    }

    private static void failingCommands() {
        ChipNetwork net = Check.loaded("grid 2 2;");
        CHECK.is("same nodes", Check.played(net, "tick 1;send 1 1 5;tick 1;"), 1);
        CHECK.is("what was done stays done", net.count(3), 1);
        CHECK.is("no command of the script ahead of it", Check.played(net, "send 0 0 5;"), 0);
        CHECK.is("nor behind its end", Check.played(net, "mend 0 north;tick 1;"), 0);
        CHECK.is("no error of the text", net.errorCode(), 0);
        CHECK.is("no source", Check.played(net, "send 4 0 5;"), 0);
        CHECK.is("no target", Check.played(net, "tick 2;tick 2;send 0 35 5;"), 2);
        CHECK.is("no link", Check.played(net, "kill 1 east;"), 0);
        CHECK.is("no node to kill at", Check.played(net, "kill 4 east;"), 0);
        CHECK.is("dead already", Check.played(net, "kill 0 east;kill 1 west;forget 0;"), 1);
        CHECK.is("alive", Check.played(net, "mend 0 north;"), 0);
        CHECK.is("no node to mend at", Check.played(net, "mend 35 north;"), 0);
        CHECK.is("no node to forget", Check.played(net, "forget 3;forget 4;"), 1);
        CHECK.is("only what was done can be undone", net.count(11), 5);
        StringBuilder many = new StringBuilder();
        for (int k = 0; k < 26; k++) {
            many.append("send 0 1 5;");
        }
        CHECK.is("no more than 24 packets", Check.played(net, many.toString()), 24);
        for (int n = 0; n < 59; n++) {
            net.tick(500);
        }
        CHECK.is("TIME ends", Check.played(net, "tick 400;tick 500;tick 1;"), 1);
    }

    private static void fortyCommands() {
        ChipNetwork net = new ChipNetwork();
        StringBuilder forty = new StringBuilder();
        for (int n = 0; n < 40; n++) {
            forty.append("tick 1;");
        }
        CHECK.is("forty", Check.played(net, forty.toString()), 40);
        CHECK.is("twelve of them can be undone", net.count(11), 12);
        error(forty + "tick 1;", 5, 280);
        error(forty + " forget", 5, 281);
        error(forty + "tock 1;", 1, 280);
        error(forty + "1", 1, 280);
        error(forty + ";", 1, 280);
        error(forty.substring(7) + "tick 501;tick 1;", 2, 278);
    }

    private static void error(String text, int code, int position) {
        ChipNetwork net = Check.loaded("grid 2 2;");
        net.tick(3);
        int digest = net.digest();
        CHECK.is(text, Check.played(net, text), ChipNetwork.TEXT_ERROR);
        CHECK.is("code of " + text, net.errorCode(), code);
        CHECK.is("position of " + text, net.errorPosition(), position);
        CHECK.is("nothing is done of " + text, net.digest(), digest);
        CHECK.is("nothing to undo of " + text, net.count(11), 1);
        CHECK.is("no buffer of " + text, net.truncateInput(1), ChipNetwork.NONE);
    }

    private static void errors() {
        error("tick 1;tick", 1, 11);
        error("tick 1;tick;", 1, 11);
        error("tick 1;tick 0;", 2, 12);
        error("tick 501;", 2, 5);
        error("tick 000001;", 1, 5);
        error("tick 1 1;", 1, 7);
        error("tick one;", 1, 5);
        error("send 0 1;", 1, 8);
        error("send 36 1 5;", 2, 5);
        error("send 0 36 5;", 2, 7);
        error("send 0 1 0;", 2, 9);
        error("send 0 1 201;", 2, 9);
        error("send 0 1 5", 1, 10);
        error("kill 0;", 1, 6);
        error("kill 36 east;", 2, 5);
        error("kill 0 up;", 1, 7);
        error("kill 0 eastern;", 1, 7);
        error("mend 36 east;", 2, 5);
        error("mend 0 east west;", 1, 12);
        error("forget 36;", 2, 7);
        error("forget 0 ;,", 1, 10);
        error("forgets 0;", 1, 0);
        error("forgetting 0;", 1, 0);
        error("grid 1 1;", 1, 0);
        error("dead 0 east;", 1, 0);
        error("stale 5;", 1, 0);
        error("lesson 0 0 east;", 1, 0);
        error(";", 1, 0);
        error("tick 1;;", 1, 7);
    }
}
