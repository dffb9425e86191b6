import java.util.ArrayList;
import java.util.List;

/** Of each promise with calls that are refused: such a call changes nothing of all that can be asked. */
final class RefusedBounds extends Bounds {
    private static final String CHANGES_NOTHING =
            "A call that throws an exception, or returns false or an error code, changes nothing";

    RefusedBounds(Book book) {
        super(book);
    }

    private interface Refused {
        void on(ChipNetwork net);
    }

    @Override
    void run() {
        refused(2, net -> net.appendInput(-1, -1, -1, -1, -1));
        refused(3, net -> net.truncateInput(-1), net -> net.truncateInput(1001));
        refused(7, net -> net.count(12));
        refused(8, net -> net.link(4, 0), net -> net.link(0, 4), net -> net.link(0, 3));
        refused(9, net -> net.isDead(2));
        refused(10, net -> net.end(-1, true));
        refused(11, net -> net.lesson(4, 0), net -> net.lesson(0, 2));
        refused(12, net -> net.lessons(-1));
        refused(13, net -> net.knowers(5));
        refused(14, net -> net.wrongLessons(4));
        refused(17, net -> net.distance(0, 4));
        refused(18, net -> net.shortest(-1, 0));
        refused(19, net -> net.believed(0, 4));
        refused(20, net -> net.ways(0, 4, 0), net -> net.ways(0, 1, 9));
        refused(22, net -> net.bridge(-1), net -> net.bridge(99));
        refused(23, net -> net.cut(0, -1), net -> net.cut(2, 2));
        refused(24, net -> net.farthest(4));
        refused(25, net -> net.send(4, 0, 5), net -> net.send(0, 1, 0), net -> net.send(1, 1, 5));
        refused(26, net -> net.tick(0), net -> net.tick(501), net -> net.tick(LEAST));
        refused(27, net -> net.kill(4, 0), net -> net.kill(0, 4), net -> net.kill(0, 2), net -> net.kill(1, 2));
        refused(28, net -> net.mend(4, 0), net -> net.mend(0, -1), net -> net.mend(0, 2), net -> net.mend(0, 1));
        refused(29, net -> net.forget(4), net -> net.forget(-1));
        refused(30, net -> net.packet(2, 0), net -> net.packet(0, 11));
        refused(31, net -> net.trail(0, -1), net -> net.trail(2, 0), net -> net.trail(0, 36));
        refused(32, net -> net.isVisited(2, 0), net -> net.isVisited(0, 4));
        refused(33, net -> net.found(-1, 0), net -> net.found(0, 2));
        refused(34, net -> net.deadHome(2));
        refused(35, net -> net.healed(2));
        refused(36, net -> net.choice(2));
        refused(37, net -> net.reason(2, 0), net -> net.reason(0, 4));
        refused(38, net -> net.cause(2, 0), net -> net.cause(0, -1));
        refused(39, net -> net.packetsIn(6));
        refused(40, net -> net.packetsAt(4));
        refused(41, net -> net.packetsTo(-1));
        refused(43, net -> net.unvisited(-1));
        refused(44, net -> net.stateIn(2, 5), net -> net.stateIn(0, 501));
        refused(45, net -> net.quietIn(0), net -> net.quietIn(1));
        refused(46, net -> net.fate(4, 0, 5), net -> net.fate(0, 1, 201), net -> net.fate(3, 3, 5));
        refused(47, net -> net.leastLimit(0, 4), net -> net.leastLimit(1, 1));
        refused(48, net -> net.meanHops());
        refused(50, net -> net.write(2), net -> net.write(-1));
        refused(51, net -> net.outputByte(-1), net -> net.outputByte(99));
        refused(55, net -> net.saveSnapshot(2), net -> net.saveSnapshot(-1));
        refused(56, net -> net.restoreSnapshot(1), net -> net.restoreSnapshot(2));
        book.test(53, CHANGES_NOTHING, this::undoOfNothing);
    }

    /** Something of all: a link dead, lessons, an error, an output, a snapshot, calls to undo, bytes in the buffer. */
    private static ChipNetwork busy() {
        ChipNetwork net = loaded("grid 2 2;stale 9;dead 0 east;lesson 3 2 east;");
        net.send(0, 3, 9);
        net.send(3, 1, 9);
        net.saveSnapshot(0);
        net.tick(2);
        net.write(0);
        Check.played(net, "tick 501;");
        Check.put(net, "tick 7;kill 3 west;" + times(970, " "));
        return net;
    }

    private void refused(int promise, Refused... calls) {
        book.test(promise, CHANGES_NOTHING, () -> {
            List<Integer> due = answers(busy());
            for (int n = 0; n < calls.length; n++) {
                ChipNetwork net = busy();
                try {
                    calls[n].on(net);
                } catch (IndexOutOfBoundsException | IllegalArgumentException | ArithmeticException e) {
                    is("the machine threw in call " + n, e.getClass().getName().contains("Array"), false);
                }
                List<Integer> got = answers(net);
                is("first answer that changed behind call " + n, firstOther(got, due), NONE);
            }
        });
    }

    private static int firstOther(List<Integer> got, List<Integer> due) {
        for (int n = 0; n < due.size(); n++) {
            if (n >= got.size() || !got.get(n).equals(due.get(n))) {
                return n;
            }
        }
        return NONE;
    }

    /** All that can be asked; at last what is in the buffer, behind undo, and in the snapshots. */
    private static List<Integer> answers(ChipNetwork net) {
        List<Integer> all = new ArrayList<>();
        for (int what = 0; what < 12; what++) {
            all.add(net.count(what));
        }
        all.add(net.errorCode());
        all.add(net.errorPosition());
        addState(net, all);
        for (int index = 0; index < 6; index++) {
            all.add(net.outputByte(index));
        }
        all.add(net.appendInput(0, 0, 0, 0, 0));
        all.add(net.play());
        all.add(net.errorPosition());
        while (net.count(11) > 0) {
            all.add(net.undo());
            addState(net, all);
        }
        for (int place = 0; place < 2; place++) {
            all.add(net.restoreSnapshot(place) ? 1 : 0);
            addState(net, all);
        }
        return all;
    }

    private static void addState(ChipNetwork net, List<Integer> all) {
        all.add(net.digest());
        for (int node = 0; node < 4; node++) {
            for (int link : new int[] {0, 1, 3, 4}) {
                all.add(net.lesson(node, link));
            }
        }
        for (int k = 0; k < net.count(6); k++) {
            for (int what = 0; what < 11; what++) {
                all.add(net.packet(k, what));
            }
            for (int link : new int[] {0, 1, 3, 4}) {
                all.add(net.found(k, link));
            }
        }
    }

    private void undoOfNothing() {
        ChipNetwork net = busy();
        net.restoreSnapshot(0);
        List<Integer> due = answers(net);
        ChipNetwork other = busy();
        other.restoreSnapshot(0);
        is("undo", other.undo(), NONE);
        is("first answer that changed", firstOther(answers(other), due), NONE);
    }
}
