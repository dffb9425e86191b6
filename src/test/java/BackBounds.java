/** Boundary cases of promises 53 to 56: undo, digest, snapshots. */
final class BackBounds extends Bounds {
    BackBounds(Book book) {
        super(book);
    }

    @Override
    void run() {
        book.test(53, "Returns the number of calls that can still be undone", this::undoneOneByOne);
        book.test(53, "NONE if there is none", this::nothingToUndo);
        book.test(53, "if they do not throw and return no error code", this::failuresAreNotUndone);
        book.test(53, "also if nothing became different", this::nothingBecameDifferent);
        book.test(53, "the latest 12 one by one", this::theLatestTwelve);
        book.test(53, "links, lessons, packets and TIME are as ahead of it", this::allAsAhead);
        book.test(53, "links, lessons, packets and TIME are as ahead of it", this::trailAsAhead);
        book.test(53, "A text of load() without errors replaces everything", this::noneBehindLoad);
        book.test(54, "begin with 1; take 31 times the digest plus TIME", this::digestOfTime);
        book.test(54, "plus 1 if it is dead, otherwise plus 0", this::digestOfLinks);
        book.test(54, "then for each packet 31 times that plus AT, then 31 times that plus its state, then 31 times that"
                + " plus HOPS", this::digestOfPackets);
        book.test(54, "the number of lessons that hold", this::digestOfLessons);
        book.test(54, "(in int arithmetic, overflow wraps)", this::digestWraps);
        book.test(54, "Returns the digest.", this::digestChangesNothing);
        book.test(55, "place: 0 or 1", this::places);
        book.test(55, "it replaces an earlier one in the same place", this::replacesAnEarlierOne);
        book.test(55, "Saves a snapshot of links, lessons, packets and TIME", this::allIsSaved);
        book.test(55, "Saves a snapshot of links, lessons, packets and TIME", this::anotherPacketOfTheSameNumber);
        book.test(55, "Returns true", this::places);
        book.test(55, "false if place is out of range", this::placesToSaveIn);
        book.test(56, "place: 0 or 1", this::restoresFromBoth);
        book.test(56, "Restores a snapshot, which stays", this::snapshotStays);
        book.test(56, "nothing can be undone then", this::nothingToUndoThen);
        book.test(56, "Returns true", this::restoresFromBoth);
        book.test(56, "false if place is out of range or has no snapshot", this::placesToRestoreFrom);
    }

    private static ChipNetwork busy() {
        ChipNetwork net = loaded("grid 3 3;stale 9;dead 0 east;lesson 8 0 east;");
        net.send(0, 8, 20);
        net.tick(3);
        return net;
    }

    private void undoneOneByOne() {
        ChipNetwork net = busy();
        net.forget(0);
        is("two left", net.undo(), 2);
        is("one left", net.undo(), 1);
        is("none left", net.undo(), 0);
        net.tick(1);
        net.tick(1);
        is("one left of two new ones", net.undo(), 1);
        is("TIME", net.count(3), 1);
    }

    private void nothingToUndo() {
        is("a new object", new ChipNetwork().undo(), NONE);
        ChipNetwork net = loaded("grid 2 1;");
        net.tick(4);
        net.undo();
        is("none left", net.undo(), NONE);
        is("nor then", net.undo(), NONE);
        is("TIME", net.count(3), 0);
        is("calls to undo", net.count(11), 0);
    }

    private void failuresAreNotUndone() {
        ChipNetwork net = busy();
        net.send(1, 1, 1);
        net.kill(0, 0);
        net.mend(4, 0);
        noIndex("send", () -> net.send(9, 0, 1));
        noArgument("send, limit", () -> net.send(0, 1, 0));
        noArgument("tick", () -> net.tick(501));
        noIndex("kill", () -> net.kill(9, 0));
        noArgument("mend", () -> net.mend(0, 4));
        noIndex("forget", () -> net.forget(-1));
        is("calls to undo", net.count(11), 2);
        is("the tick is undone", net.undo(), 1);
        is("TIME", net.count(3), 0);
        ChipNetwork full = loaded("grid 2 1;");
        for (int k = 0; k < 24; k++) {
            full.send(0, 1, 5);
        }
        full.send(0, 1, 5);
        is("a 25th packet is none", full.undo(), 11);
        is("packets", full.count(6), 23);
        ChipNetwork late = loaded("grid 2 1;");
        for (int n = 0; n < 60; n++) {
            late.tick(500);
        }
        late.tick(1);
        late.undo();
        is("a tick beyond 30000 is none", late.count(3), 29500);
    }

    private void nothingBecameDifferent() {
        ChipNetwork net = new ChipNetwork();
        net.forget(0);
        is("a forget of nothing", net.count(11), 1);
        is("undone", net.undo(), 0);
        ChipNetwork twice = busy();
        twice.forget(8);
        twice.forget(8);
        is("the second forget is undone", twice.undo(), 3);
        is("the lesson is still forgotten", twice.lesson(8, 0), NONE);
        is("the first forget is undone", twice.undo(), 2);
        is("the lesson is back", twice.lesson(8, 0), 0);
    }

    private void theLatestTwelve() {
        for (int calls = 11; calls <= 26; calls++) {
            ChipNetwork net = loaded("grid 2 1;");
            int time = 0;
            for (int n = 1; n <= calls; n++) {
                net.tick(n);
                time += n <= calls - 12 ? n : 0;
            }
            int most = calls < 12 ? calls : 12;
            is("of " + calls, net.count(11), most);
            for (int n = most - 1; n >= 0; n--) {
                is("left of " + calls, net.undo(), n);
            }
            is("no more of " + calls, net.undo(), NONE);
            is("TIME behind " + calls, net.count(3), time);
        }
    }

    private void allAsAhead() {
        ChipNetwork net = busy();
        int digest = net.digest();
        net.tick(4);
        net.undo();
        is("TIME", net.count(3), 3);
        row("then", net, 0, GOING, 4, 2);
        is("TRAIL", net.packet(0, 6), 3);
        is("VISITED", net.packet(0, 7), 3);
        net.tick(9);
        net.undo();
        is("its end", net.packet(0, 10), NONE);
        net.kill(4, 0);
        net.undo();
        is("link killed", net.isDead(8), false);
        net.mend(0, 0);
        net.undo();
        is("link mended", net.isDead(0), true);
        net.forget(8);
        net.undo();
        is("lesson forgotten", net.lesson(8, 0), 0);
        net.send(1, 2, 3);
        net.undo();
        noIndex("packet sent", () -> net.packet(1, 0));
        is("digest", net.digest(), digest);
        net.undo();
        is("MAP", net.found(0, 0), NONE);
        is("lesson learned", net.lesson(0, 0), NONE);
        net.undo();
        is("packets", net.count(6), 0);
        net.tick(9);
        net.send(2, 3, 4);
        int[] due = {2, 3, 4, GOING, 2, 0, 1, 1, 0, 9, NONE};
        for (int what = 0; what < due.length; what++) {
            is("another packet 0 " + what, net.packet(0, what), due[what]);
        }
    }

    /** It has been at 1, and goes by 3 when the tick is undone. */
    private void trailAsAhead() {
        ChipNetwork net = loaded("grid 3 2;dead 1 east;dead 1 north;");
        net.send(0, 2, 9);
        net.tick(2);
        net.tick(4);
        is("by 3", net.trail(0, 1), 3);
        net.undo();
        is("by 1", net.trail(0, 1), 1);
        is("AT", net.packet(0, 4), 1);
        net.tick(4);
        is("by 3 again", net.trail(0, 1), 3);
    }

    private void noneBehindLoad() {
        ChipNetwork net = busy();
        Check.put(net, "grid 2 1;");
        net.load();
        is("undo", net.undo(), NONE);
        is("WIDTH", net.count(0), 2);
        net.tick(1);
        Check.put(net, "grid 0 1;");
        net.load();
        is("a load with an error leaves it", net.undo(), 0);
    }

    private void digestOfTime() {
        is("at 0", new ChipNetwork().digest(), 31 * 31);
        ChipNetwork net = new ChipNetwork();
        net.tick(7);
        is("at 7", net.digest(), 31 * (31 + 7));
    }

    private void digestOfLinks() {
        ChipNetwork net = loaded("grid 2 1;");
        is("alive", net.digest(), 31 * 31 * 31);
        net.kill(0, 0);
        is("dead", net.digest(), 31 * (31 * 31 + 1));
        ChipNetwork ring = loaded("grid 2 2;dead 0 north;");
        is("0 1 3 4", ring.digest(), 31 * (31 * (31 * (31 * (31 * 31) + 1))));
    }

    private void digestOfPackets() {
        ChipNetwork net = loaded("grid 2 1;");
        net.send(1, 0, 5);
        net.send(0, 1, 5);
        int due = 31 * 31;
        due = 31 * (31 * (31 * due + 1));
        due = 31 * (31 * (31 * due));
        is("at first", net.digest(), 31 * due);
        net.tick(1);
        due = 31 * (31 + 1);
        due = 31 * (31 * (31 * due) + 1) + 1;
        due = 31 * (31 * (31 * due + 1) + 1) + 1;
        is("a tick later", net.digest(), 31 * due);
    }

    private void digestOfLessons() {
        ChipNetwork net = loaded("grid 2 1;stale 3;lesson 0 0 east;lesson 1 0 east;");
        is("two", net.digest(), 31 * 31 * 31 + 2);
        net.tick(2);
        is("at 2", net.digest(), 31 * 31 * (31 + 2) + 2);
        net.tick(1);
        is("at 3", net.digest(), 31 * 31 * (31 + 3));
    }

    private void digestWraps() {
        ChipNetwork net = loaded("grid 6 6;dead 0 east;lesson 8 0 east;");
        net.send(35, 0, 9);
        java.math.BigInteger sum = java.math.BigInteger.valueOf(31);
        for (int n = 0; n < 60; n++) {
            sum = sum.multiply(java.math.BigInteger.valueOf(31)).add(java.math.BigInteger.valueOf(n == 0 ? 1 : 0));
        }
        for (int part : new int[] {35, 0, 0, 1}) {
            sum = sum.multiply(java.math.BigInteger.valueOf(31)).add(java.math.BigInteger.valueOf(part));
        }
        is("of 36 nodes", net.digest(), sum.intValue());
    }

    private void digestChangesNothing() {
        ChipNetwork net = busy();
        int digest = net.digest();
        is("again", net.digest(), digest);
        is("calls to undo", net.count(11), 2);
    }

    private void places() {
        ChipNetwork net = busy();
        is("0", net.saveSnapshot(0), true);
        is("1", net.saveSnapshot(1), true);
        is("0 again", net.saveSnapshot(0), true);
        is("calls to undo", net.count(11), 2);
        is("of a new object", new ChipNetwork().saveSnapshot(1), true);
    }

    private void replacesAnEarlierOne() {
        ChipNetwork net = busy();
        net.saveSnapshot(0);
        net.saveSnapshot(1);
        net.tick(2);
        net.saveSnapshot(1);
        net.tick(2);
        net.restoreSnapshot(1);
        is("the later one", net.count(3), 5);
        net.restoreSnapshot(0);
        is("the other place", net.count(3), 3);
    }

    private void allIsSaved() {
        ChipNetwork net = busy();
        int digest = net.digest();
        net.saveSnapshot(1);
        net.tick(4);
        net.kill(7, 0);
        net.mend(0, 0);
        net.forget(8);
        net.forget(0);
        net.send(4, 0, 7);
        net.restoreSnapshot(1);
        is("digest", net.digest(), digest);
        is("TIME", net.count(3), 3);
        is("link killed", net.isDead(14), false);
        is("link mended", net.isDead(0), true);
        is("lesson of the text", net.lesson(8, 0), 0);
        is("lesson found", net.lesson(0, 0), 0);
        is("packets", net.count(6), 1);
        int[] due = {0, 8, 20, GOING, 4, 2, 3, 3, 1, 0, NONE};
        for (int what = 0; what < due.length; what++) {
            is("packet 0 " + what, net.packet(0, what), due[what]);
        }
        is("TRAIL", 100 * net.trail(0, 0) + 10 * net.trail(0, 1) + net.trail(0, 2), 34);
        is("MAP", net.found(0, 0), 0);
        net.undo();
        net.tick(50);
        row("it goes on from there", net, 0, TOLD, 0, 4);
    }

    private void anotherPacketOfTheSameNumber() {
        ChipNetwork net = loaded("grid 3 2;");
        net.tick(1);
        net.send(0, 5, 3);
        net.tick(9);
        net.saveSnapshot(1);
        net.undo();
        net.undo();
        net.undo();
        net.send(4, 0, 200);
        net.tick(1);
        net.restoreSnapshot(1);
        int[] due = {0, 5, 3, TOLD, 0, 3, 1, 4, 0, 1, 7};
        for (int what = 0; what < due.length; what++) {
            is("packet 0 " + what, net.packet(0, what), due[what]);
        }
        is("SOURCE on the TRAIL", net.trail(0, 0), 0);
    }

    private void placesToSaveIn() {
        ChipNetwork net = busy();
        for (int place : new int[] {-1, 2, 3, LEAST, MOST}) {
            is("save in " + place, net.saveSnapshot(place), false);
        }
        is("nothing in 0", net.restoreSnapshot(0), false);
        is("nothing in 1", net.restoreSnapshot(1), false);
    }

    private void restoresFromBoth() {
        for (int place = 0; place < 2; place++) {
            ChipNetwork net = busy();
            net.saveSnapshot(place);
            net.tick(1);
            is("the other place", net.restoreSnapshot(1 - place), false);
            is("restore from " + place, net.restoreSnapshot(place), true);
            is("TIME", net.count(3), 3);
        }
    }

    private void snapshotStays() {
        ChipNetwork net = busy();
        net.saveSnapshot(0);
        int digest = net.digest();
        for (int n = 0; n < 3; n++) {
            is("time " + n, net.restoreSnapshot(0), true);
            is("digest " + n, net.digest(), digest);
            net.tick(2);
            net.kill(7, 0);
            net.forget(8);
            net.send(1, 2, 3);
        }
        net.undo();
        net.undo();
        net.restoreSnapshot(0);
        is("undo leaves it", net.digest(), digest);
    }

    private void nothingToUndoThen() {
        ChipNetwork net = busy();
        net.saveSnapshot(0);
        is("saving leaves calls to undo", net.count(11), 2);
        net.restoreSnapshot(0);
        is("calls to undo", net.count(11), 0);
        is("undo", net.undo(), NONE);
        is("TIME", net.count(3), 3);
        net.tick(1);
        is("a later call can be", net.undo(), 0);
        is("TIME then", net.count(3), 3);
    }

    private void placesToRestoreFrom() {
        ChipNetwork net = busy();
        net.tick(1);
        for (int place : new int[] {-1, 0, 1, 2, LEAST, MOST}) {
            is("from " + place, net.restoreSnapshot(place), false);
        }
        net.saveSnapshot(0);
        for (int place : new int[] {-1, 1, 2, LEAST, MOST}) {
            is("from " + place + " with one in 0", net.restoreSnapshot(place), false);
        }
        is("calls to undo stay", net.count(11), 3);
        is("TIME stays", net.count(3), 4);
    }
}
