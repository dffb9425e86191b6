/** Promises 50 and 51: write and outputByte. */
public final class OutputTest {
    private static final Check CHECK = new Check("OutputTest");

    public static void main(String[] args) {
        write();
        longTrail();
        outputStays();
        CHECK.end();
    }

    private static String output(ChipNetwork net) {
        StringBuilder text = new StringBuilder();
        for (int index = 0; net.outputByte(index) != ChipNetwork.NONE; index++) {
            text.append((char) net.outputByte(index));
        }
        return text.toString();
    }

    private static void written(ChipNetwork net, int packet, String due) {
        CHECK.is("bytes of " + due, net.write(packet), due.length());
        CHECK.is("output is " + due + ", here " + output(net), output(net).equals(due), true);
    }

    private static void write() {
        ChipNetwork net = Check.loaded("grid 6 6;");
        net.send(9, 10, 9);
        net.send(14, 0, 30);
        net.send(0, 14, 30);
        written(net, 0, "9");
        net.tick(4);
        written(net, 1, "14wwss");
        written(net, 2, "0eenn");
        CHECK.is("byte behind the end", net.outputByte(5), ChipNetwork.NONE);
        CHECK.is("byte of the older text", net.outputByte(6), ChipNetwork.NONE);
        CHECK.is("byte -1", net.outputByte(-1), ChipNetwork.NONE);
        CHECK.is("least byte", net.outputByte(Integer.MIN_VALUE), ChipNetwork.NONE);
        CHECK.is("greatest byte", net.outputByte(Integer.MAX_VALUE), ChipNetwork.NONE);
        net.send(10, 9, 9);
        written(net, 3, "10");
        net.tick(1);
        written(net, 2, "0een");
        CHECK.fails("no packet", Check.NO_INDEX, () -> net.write(4));
        CHECK.fails("packet -1", Check.NO_INDEX, () -> net.write(-1));
        CHECK.is("the output stays then", output(net).equals("0een"), true);
        ChipNetwork tower = Check.loaded("grid 1 4;");
        tower.send(3, 1, 9);
        tower.tick(2);
        written(tower, 0, "3ss");
    }

    /** The link from 30 to 24 is dead, so that each row is gone along until its end. */
    private static void longTrail() {
        StringBuilder text = new StringBuilder("grid 6 6;");
        for (int row = 0; row < 5; row++) {
            for (int column = 0; column < 6; column++) {
                if (column != (row % 2 == 0 ? 5 : 0)) {
                    text.append("dead ").append(6 * row + column).append(" north;");
                }
            }
        }
        ChipNetwork net = Check.loaded(text.toString());
        net.send(30, 0, 200);
        for (int n = 0; n < 200 && net.packet(0, 3) == 0; n++) {
            net.tick(1);
        }
        CHECK.is("all nodes on the TRAIL", net.packet(0, 6), 36);
        written(net, 0, "30eeeeeswwwwwseeeeeswwwwwseeeeeswwwww");
    }

    private static void outputStays() {
        ChipNetwork net = Check.loaded("grid 3 1;");
        net.send(0, 2, 9);
        net.tick(1);
        net.write(0);
        net.tick(1);
        net.undo();
        net.undo();
        CHECK.is("tick and undo leave it", output(net).equals("0e"), true);
        net.saveSnapshot(0);
        net.restoreSnapshot(0);
        CHECK.is("snapshots leave it", output(net).equals("0e"), true);
    }
}
