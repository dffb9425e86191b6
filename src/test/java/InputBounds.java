/** Boundary cases of promises 2 to 4: the input buffer and load(). */
final class InputBounds extends Bounds {
    private static final int BLANKS = 0x20202020;
    private static final String ODD_LINKS = "grid 2 2;stale 7;dead 1 north;lesson 2 0 east;";

    InputBounds(Book book) {
        super(book);
    }

    @Override
    void run() {
        book.test(2, "Appends 20 bytes to the input buffer", this::appendsTwenty);
        book.test(2, "most significant byte first", this::mostSignificantFirst);
        book.test(2, "Returns the new length of the buffer", this::appendsUntilFull);
        book.test(2, "an input buffer of at most 1000 bytes", this::thousandBytesAreRead);
        book.test(2, "NONE if it would exceed 1000 bytes", this::fullBuffer);
        book.test(2, "(then nothing is appended)", this::nothingIsAppended);
        book.test(3, "Shortens the input buffer to its first bytes.", this::firstBytesStay);
        book.test(3, "length: 0 to the current length", this::lengthsToTruncate);
        book.test(3, "Returns the new length", this::newLength);
        book.test(3, "NONE if length is out of range", this::truncateRefuses);
        book.test(4, "a sequence of statements, perhaps none", this::noStatements);
        book.test(4, "THE GRID has a WIDTH and a HEIGHT (1 to 6 each", this::gridSizes);
        book.test(4, "1 at first", this::withoutGrid);
        book.test(4, "grid WIDTH HEIGHT ; (at most once, only as the first statement)", this::gridOnlyFirst);
        book.test(4, "stale N ; (at most once)", this::staleOnce);
        book.test(4, "STALE (1 to 1000", this::staleRange);
        book.test(4, "50 at first) tells how long lessons hold", this::staleAtFirst);
        book.test(4, "dead NODE WAY ;", this::deadLinks);
        book.test(4, "(the first node LEARNS at the TIME 0 that the link of the second one is dead)", this::lessons);
        book.test(4, "(longest runs of the letters a to z, at most 8 letters)", this::words);
        book.test(4, "A WAY is one of the words east, north, west and south.", this::ways);
        book.test(4, "numbers (longest runs of digits, at most 5 digits)", this::numbers);
        book.test(4, "Spaces and line feeds (bytes 32 and 10) separate tokens and have no other meaning.", this::blanks);
        book.test(4, "Returns the number of nodes", this::numberOfNodes);
        book.test(4, "TEXT_ERROR if the text has an error (then only the buffer and the error change)", this::errorKeepsAll);
        book.test(4, "load() and play() read it and empty it, also on an error", this::loadEmptiesBuffer);
        book.test(4, "A text of load() without errors replaces everything: TIME 0, no packets", this::replacesState);
        book.test(4, "nothing can be undone then", this::nothingToUndo);
        book.test(4, "there are no snapshots", this::noSnapshots);
    }

    private void appendsTwenty() {
        ChipNetwork net = new ChipNetwork();
        is("length of one call", net.appendInput(BLANKS, BLANKS, BLANKS, BLANKS, BLANKS), 20);
        is("all 20 are there", net.truncateInput(20), 20);
        is("and no more", net.truncateInput(21), NONE);
    }

    /** A byte that is no token, in each of the 20 places. */
    private void mostSignificantFirst() {
        for (int place = 0; place < 20; place++) {
            for (int sign : new int[] {0, '%', 128, 255}) {
                ChipNetwork net = new ChipNetwork();
                int[] words = {BLANKS, BLANKS, BLANKS, BLANKS, BLANKS};
                int shift = 24 - 8 * (place % 4);
                words[place / 4] = words[place / 4] & ~(255 << shift) | sign << shift;
                net.appendInput(words[0], words[1], words[2], words[3], words[4]);
                is("load of byte " + sign, net.load(), TEXT_ERROR);
                is("place of byte " + sign, net.errorPosition(), place);
            }
        }
        ChipNetwork net = new ChipNetwork();
        net.appendInput(0x67726964, 0x20352034, 0x3b737461, 0x6c652037, 0x37203b0a);
        is("grid 5 4;stale 77 ;", net.load(), 20);
        is("STALE", net.count(2), 77);
    }

    private void appendsUntilFull() {
        ChipNetwork net = new ChipNetwork();
        for (int n = 1; n <= 50; n++) {
            is("length of " + n + " calls", net.appendInput(BLANKS, BLANKS, BLANKS, BLANKS, BLANKS), 20 * n);
        }
        net.truncateInput(7);
        is("length behind 7 bytes", net.appendInput(0, 0, 0, 0, 0), 27);
        net.truncateInput(0);
        is("length behind none", net.appendInput(0, 0, 0, 0, 0), 20);
    }

    private void thousandBytesAreRead() {
        String end = "stale 7;";
        ChipNetwork net = loaded("grid 6 6;" + times(1000 - 9 - end.length(), " ") + end);
        is("the last statement", net.count(2), 7);
        is("the first statement", net.count(0), 6);
        Check.put(net, times(993, " ") + "stale 7");
        is("without its last byte", net.load(), TEXT_ERROR);
        is("the text ends at", net.errorPosition(), 1000);
        Check.put(net, times(993, "\n") + "tick 9;");
        is("a script of 1000 bytes", net.play(), 1);
    }

    private void fullBuffer() {
        for (int length : new int[] {981, 990, 999, 1000}) {
            ChipNetwork net = new ChipNetwork();
            Check.put(net, times(length, " "));
            is("append to " + length, net.appendInput(BLANKS, BLANKS, BLANKS, BLANKS, BLANKS), NONE);
        }
        for (int length : new int[] {961, 979, 980}) {
            ChipNetwork net = new ChipNetwork();
            Check.put(net, times(length, " "));
            is("append to " + length, net.appendInput(BLANKS, BLANKS, BLANKS, BLANKS, BLANKS), length + 20);
        }
    }

    private void nothingIsAppended() {
        ChipNetwork net = new ChipNetwork();
        Check.put(net, "stale 6;" + times(973, " "));
        net.appendInput(-1, -1, -1, -1, -1);
        is("length stays", net.truncateInput(982), NONE);
        is("none of the bytes is there", net.load(), 1);
        is("the bytes ahead are", net.count(2), 6);
    }

    private void firstBytesStay() {
        ChipNetwork net = new ChipNetwork();
        Check.put(net, "grid 2 3;stale 9;");
        net.truncateInput(9);
        is("load of the first bytes", net.load(), 6);
        is("STALE of the others", net.count(2), 50);
        Check.put(net, "grid 2 3;stale 9;");
        net.truncateInput(16);
        net.load();
        is("the text ends ahead of its last byte", net.errorPosition(), 16);
    }

    private void lengthsToTruncate() {
        ChipNetwork net = new ChipNetwork();
        is("0 of an empty buffer", net.truncateInput(0), 0);
        is("1 of an empty buffer", net.truncateInput(1), NONE);
        net.appendInput(0, 0, 0, 0, 0);
        is("the current length", net.truncateInput(20), 20);
        is("one less", net.truncateInput(19), 19);
        is("the length ahead of that", net.truncateInput(20), NONE);
        is("0", net.truncateInput(0), 0);
        is("1 then", net.truncateInput(1), NONE);
    }

    private void newLength() {
        ChipNetwork net = new ChipNetwork();
        Check.put(net, times(1000, " "));
        for (int length : new int[] {1000, 999, 500, 1, 0}) {
            is("to " + length, net.truncateInput(length), length);
        }
    }

    private void truncateRefuses() {
        ChipNetwork net = new ChipNetwork();
        Check.put(net, "grid 3 3;");
        for (int length : new int[] {-1, 10, 1000, LEAST, MOST}) {
            is("to " + length, net.truncateInput(length), NONE);
        }
        is("the buffer stays", net.load(), 9);
    }

    private void noStatements() {
        for (String text : new String[] {"", " ", "\n", " \n \n", times(1000, " ")}) {
            ChipNetwork net = loaded("grid 2 2;stale 3;");
            Check.put(net, text);
            is("load", net.load(), 1);
            is("code", net.errorCode(), 0);
            is("STALE", net.count(2), 50);
        }
    }

    private void gridSizes() {
        for (int width = 0; width <= 7; width++) {
            for (int height = 0; height <= 7; height++) {
                boolean isSize = width % 7 != 0 && height % 7 != 0;
                ChipNetwork net = new ChipNetwork();
                Check.put(net, "grid " + width + " " + height + ";");
                is(width + " by " + height, net.load(), isSize ? width * height : TEXT_ERROR);
                is("WIDTH", net.count(0), isSize ? width : 1);
                is("HEIGHT", net.count(1), isSize ? height : 1);
                is("code", net.errorCode(), isSize ? 0 : 2);
                is("position", net.errorPosition(), isSize ? NONE : width % 7 == 0 ? 5 : 7);
            }
        }
    }

    private void withoutGrid() {
        ChipNetwork net = loaded("grid 3 3;");
        Check.put(net, "stale 3;");
        is("nodes", net.load(), 1);
        is("WIDTH", net.count(0), 1);
        is("HEIGHT", net.count(1), 1);
    }

    private void gridOnlyFirst() {
        error("grid 2 2;grid 2 2;", 4, 9);
        error("stale 5;grid 2 2;", 4, 8);
        error("grid 2 1;dead 0 east;grid 1 1;", 4, 21);
        error("grid 2 1;lesson 0 0 east;grid", 4, 25);
    }

    private void staleOnce() {
        is("one behind other statements", loaded("grid 2 1;dead 0 east;stale 9;").count(2), 9);
        is("one ahead of others", loaded("stale 8;").count(2), 8);
        error("stale 5;stale 5;", 4, 8);
        error("grid 2 1;stale 5;dead 0 east;\nstale", 4, 30);
        ChipNetwork net = loaded("stale 5;");
        Check.put(net, "stale 6;");
        is("each text has one", net.load(), 1);
    }

    private void staleRange() {
        for (int stale : new int[] {1, 2, 999, 1000}) {
            is("STALE " + stale, loaded("stale " + stale + ";").count(2), stale);
        }
        error("stale 0;", 2, 6);
        error("stale 1001;", 2, 6);
        error("stale 99999;", 2, 6);
    }

    private void staleAtFirst() {
        ChipNetwork net = loaded("grid 2 1;lesson 0 0 east;");
        net.tick(49);
        is("lessons at 49", net.lessons(0), 1);
        net.tick(1);
        is("lessons at 50", net.lessons(0), 0);
    }

    private void deadLinks() {
        ChipNetwork net = loaded("grid 6 6;dead 0 east;dead 35 west;dead 0 north;dead 35 south;");
        is("dead links", net.count(5), 4);
        is("of the first node", net.isDead(0) && net.isDead(1), true);
        is("of the last node", net.isDead(68) && net.isDead(59), true);
        StringBuilder all = new StringBuilder("grid 6 6;");
        for (int node = 0; node < 36; node++) {
            all.append(node % 6 < 5 ? "dead " + node + " east;" : "");
            all.append(node < 30 ? "dead " + node + " north;" : "");
        }
        is("all 60 links", loaded(all.toString()).count(5), 60);
        is("each node is alone", loaded(all.toString()).parts(), 36);
    }

    private void lessons() {
        ChipNetwork net = loaded("grid 3 2;lesson 0 5 west;lesson 5 0 north;lesson 5 3 south;");
        is("of the first node", net.lesson(0, 8), 0);
        is("of the last node", net.lesson(5, 1), 0);
        is("twice the same is one", net.lessons(5), 1);
        is("all of them", net.count(8), 2);
        is("the link itself is alive", net.isDead(8), false);
        is("also of a link that is dead", loaded("grid 2 1;dead 0 east;lesson 1 0 east;").wrongLessons(1), 0);
    }

    private void words() {
        is("nothing between words and numbers", loaded("grid6 6;stale1000;dead35west;lesson0 0east;").count(5), 1);
        error("grid 2 1;dead 0 eastward;", 1, 16);
        error("grid 2 1;dead 0 eastwards;", 1, 16);
        error("gridstale 2 1;", 1, 0);
        error("stalestale 2;", 1, 0);
        error("abcdefgh", 1, 0);
        error("abcdefghi", 1, 0);
        error("`", 1, 0);
        error("stale 5;{", 1, 8);
        error("gri 2 1;", 1, 0);
        error("Stale 5;", 1, 0);
        error("staLe 5;", 1, 0);
        error("stalez 5;", 1, 0);
        error("astale 5;", 1, 0);
        error(times(1000, "a"), 1, 0);
    }

    private void ways() {
        String[] words = {"east", "north", "west", "south"};
        int[] due = {8, 9, 6, 3};
        for (int way = 0; way < 4; way++) {
            ChipNetwork net = loaded("grid 3 3;dead 4 " + words[way] + ";");
            for (int link : due) {
                is("link " + link + " of dead 4 " + words[way], net.isDead(link), link == due[way]);
            }
            is("lesson", loaded("grid 3 3;lesson 0 4 " + words[way] + ";").lesson(0, due[way]), 0);
        }
        for (String word : new String[] {"e", "eas", "easts", "up", "nort", "norths", "wes", "wests", "sout", "souths", "dead"}) {
            error("grid 3 3;dead 4 " + word + ";", 1, 16);
        }
    }

    private void numbers() {
        is("5 digits", loaded("stale 01000;").count(2), 1000);
        is("5 digits of a grid", loaded("grid 00006 00001;").count(0), 6);
        error("stale 001000;", 1, 6);
        error("stale 000001;", 1, 6);
        error("stale 99999;", 2, 6);
        error("stale 100000;", 1, 6);
        error("stale 4294967301;", 1, 6);
        error("stale /;", 1, 6);
        error("stale :;", 1, 6);
        error("stale -5;", 1, 6);
        error("stale 5.0;", 1, 7);
        error("stale " + times(994, "1"), 1, 6);
    }

    private void blanks() {
        for (int sign = 0; sign < 256; sign++) {
            ChipNetwork net = new ChipNetwork();
            Check.put(net, "stale" + (char) sign + "5;");
            boolean isRead = sign == 32 || sign == 10 || sign >= '0' && sign <= '9';
            is("load with byte " + sign, net.load(), isRead ? 1 : TEXT_ERROR);
            is("code with byte " + sign, net.errorCode(), isRead ? 0 : 1);
        }
        is("many of them", loaded("\n\n grid \n2\n\n2 ; \nstale\n 9\n;\n").count(2), 9);
        error("sta le 5;", 1, 0);
        error("stale 5 5;", 1, 8);
    }

    private void numberOfNodes() {
        is("one", loaded("grid 1 1;").count(4), 0);
        ChipNetwork net = new ChipNetwork();
        Check.put(net, "grid 6 6;");
        is("of the greatest grid", net.load(), 36);
        Check.put(net, "grid 6 1;");
        is("of a row", net.load(), 6);
        Check.put(net, "grid 1 6;");
        is("of a column", net.load(), 6);
        Check.put(net, "");
        is("of no grid", net.load(), 1);
    }

    private void errorKeepsAll() {
        ChipNetwork net = loaded(ODD_LINKS);
        net.send(0, 3, 9);
        net.tick(2);
        net.write(0);
        net.saveSnapshot(1);
        int digest = net.digest();
        Check.put(net, "grid 3 3;stale 4;dead 0 east;lesson 2 0 east;dead 1 west;");
        is("load", net.load(), TEXT_ERROR);
        is("digest", net.digest(), digest);
        is("WIDTH", net.count(0), 2);
        is("STALE", net.count(2), 7);
        is("TIME", net.count(3), 2);
        is("dead links", net.count(5), 1);
        is("packets", net.count(6), 1);
        is("lesson", net.lesson(2, 0), 0);
        is("output", output(net), "0e");
        is("calls to undo", net.count(11), 2);
        is("snapshot", net.restoreSnapshot(1), true);
    }

    private void loadEmptiesBuffer() {
        ChipNetwork net = new ChipNetwork();
        Check.put(net, "grid 2 2;");
        net.load();
        is("behind a text without errors", net.truncateInput(1), NONE);
        is("append then", net.appendInput(0, 0, 0, 0, 0), 20);
        is("load of zeros", net.load(), TEXT_ERROR);
        is("behind an error", net.truncateInput(1), NONE);
        is("append then too", net.appendInput(0, 0, 0, 0, 0), 20);
    }

    private void replacesState() {
        ChipNetwork net = loaded("grid 2 2;stale 7;dead 0 east;dead 2 east;lesson 0 0 east;lesson 3 2 east;");
        net.send(0, 3, 9);
        net.tick(3);
        net.stateIn(0, 5);
        Check.put(net, "grid 2 2;");
        is("load", net.load(), 4);
        int[] due = {2, 2, 50, 0, 4, 0, 0, 0, 0, 0, 0, 0};
        for (int what = 0; what < due.length; what++) {
            is("count " + what, net.count(what), due[what]);
        }
        is("links", net.isDead(0) || net.isDead(4), false);
        is("lesson of the first node", net.lesson(0, 0), NONE);
        is("lesson of the last node", net.lesson(3, 4), NONE);
        noIndex("packet", () -> net.packet(0, 0));
        is("unvisited", net.unvisited(0), 0);
        is("the next packet is the first one", net.send(1, 0, 5), 0);
    }

    private void nothingToUndo() {
        ChipNetwork net = loaded(ODD_LINKS);
        net.tick(3);
        Check.put(net, "");
        net.load();
        is("calls to undo", net.count(11), 0);
        is("undo", net.undo(), NONE);
        is("TIME", net.count(3), 0);
    }

    private void noSnapshots() {
        ChipNetwork net = loaded(ODD_LINKS);
        net.saveSnapshot(0);
        net.saveSnapshot(1);
        Check.put(net, "grid 3 1;");
        net.load();
        is("in 0", net.restoreSnapshot(0), false);
        is("in 1", net.restoreSnapshot(1), false);
        is("WIDTH", net.count(0), 3);
    }

    private void error(String text, int code, int position) {
        ChipNetwork net = new ChipNetwork();
        Check.put(net, text);
        is("load of " + text, net.load(), TEXT_ERROR);
        is("code of " + text, net.errorCode(), code);
        is("position of " + text, net.errorPosition(), position);
    }
}
