/** Boundary cases of promises 50 and 51: write and outputByte. */
final class OutputBounds extends Bounds {
    OutputBounds(Book book) {
        super(book);
    }

    @Override
    void run() {
        book.test(50, "in place of what was there", this::replaces);
        book.test(50, "SOURCE, then for each step the first letter of its DIRECTION", this::letters);
        book.test(50, "Returns the number of bytes.", this::lengths);
        book.test(50, "IndexOutOfBoundsException if there is no such packet", this::noPacket);
        book.test(51, "index: from 0", this::fromNought);
        book.test(51, "Returns the byte", this::bytes);
        book.test(51, "NONE if there is no such byte", this::noByte);
    }

    private static ChipNetwork sent() {
        ChipNetwork net = loaded("grid 6 6;");
        net.send(9, 10, 9);
        net.send(14, 0, 30);
        net.send(0, 14, 30);
        net.send(35, 29, 30);
        return net;
    }

    private void replaces() {
        ChipNetwork net = sent();
        net.tick(4);
        net.write(1);
        is("a long one", output(net), "14wwss");
        net.write(0);
        is("a short one", output(net), "9");
        is("behind its end", net.outputByte(1), NONE);
        is("behind the end of the long one", net.outputByte(6), NONE);
    }

    private void letters() {
        for (int source = 0; source < 36; source++) {
            ChipNetwork one = loaded("grid 6 6;");
            one.send(source, (source + 1) % 36, 9);
            one.write(0);
            is("SOURCE " + source, output(one), "" + source);
        }
        ChipNetwork net = sent();
        net.write(3);
        is("SOURCE alone, of two digits", output(net), "35");
        net.write(0);
        is("SOURCE alone, of one digit", output(net), "9");
        net.write(2);
        is("SOURCE 0", output(net), "0");
        net.tick(3);
        net.write(2);
        is("underway", output(net), "0een");
        net.write(3);
        is("told", output(net), "35");
        net.send(10, 9, 9);
        net.write(4);
        is("SOURCE 10", output(net), "10");
        net.tick(1);
        net.write(4);
        is("one step", output(net), "10w");
        ChipNetwork column = loaded("grid 1 4;");
        column.send(0, 3, 9);
        column.tick(2);
        column.write(0);
        is("north in a column", output(column), "0nn");
        column.send(3, 0, 9);
        column.tick(2);
        column.write(1);
        is("south in a column", output(column), "3ss");
        ChipNetwork lost = loaded("grid 4 1;");
        lost.send(0, 3, 9);
        lost.tick(3);
        lost.kill(1, 0);
        lost.tick(5);
        lost.write(0);
        is("of one that is lost", output(lost), "0ee");
    }

    private void lengths() {
        ChipNetwork net = sent();
        is("the shortest", net.write(0), 1);
        is("two digits", net.write(1), 2);
        StringBuilder text = new StringBuilder("grid 6 6;");
        for (int row = 0; row < 5; row++) {
            for (int column = 0; column < 6; column++) {
                if (column != (row % 2 == 0 ? 5 : 0)) {
                    text.append("dead ").append(6 * row + column).append(" north;");
                }
            }
        }
        ChipNetwork longest = loaded(text.toString());
        longest.send(30, 0, 200);
        for (int n = 0; n < 200 && longest.packet(0, 3) == GOING; n++) {
            longest.tick(1);
        }
        is("the longest", longest.write(0), 37);
        is("its bytes", output(longest), "30eeeeeswwwwwseeeeeswwwwwseeeeeswwwww");
    }

    private void noPacket() {
        ChipNetwork net = sent();
        net.tick(4);
        net.write(1);
        noIndexFrom(4, "packet", net::write);
        noIndex("packet 23", () -> net.write(23));
        noIndex("packet 24", () -> net.write(24));
        is("the output stays", output(net), "14wwss");
    }

    private void fromNought() {
        ChipNetwork net = sent();
        net.write(1);
        is("0", net.outputByte(0), '1');
        is("1", net.outputByte(1), '4');
        is("-1", net.outputByte(-1), NONE);
    }

    private void bytes() {
        ChipNetwork net = sent();
        net.tick(4);
        net.write(1);
        int[] due = {49, 52, 119, 119, 115, 115};
        for (int index = 0; index < due.length; index++) {
            is("byte " + index, net.outputByte(index), due[index]);
        }
        net.undo();
        net.saveSnapshot(0);
        net.restoreSnapshot(0);
        net.tick(1);
        is("other calls leave it", output(net), "14wwss");
    }

    private void noByte() {
        for (int index : new int[] {-1, 0, 1, LEAST, MOST}) {
            is("of a new object, byte " + index, new ChipNetwork().outputByte(index), NONE);
        }
        ChipNetwork net = sent();
        net.write(1);
        for (int index : new int[] {-1, 2, 3, 36, 37, 40, 41, LEAST, MOST}) {
            is("byte " + index, net.outputByte(index), NONE);
        }
    }
}
