/** What the tests of boundary cases share. */
abstract class Bounds {
    static final int NONE = ChipNetwork.NONE;
    static final int FULL = ChipNetwork.FULL;
    static final int TEXT_ERROR = ChipNetwork.TEXT_ERROR;
    static final int REFUSED = ChipNetwork.REFUSED;
    static final int LEAST = Integer.MIN_VALUE;
    static final int MOST = Integer.MAX_VALUE;

    static final int GOING = 0;
    static final int TELLING = 1;
    static final int RETURNING = 2;
    static final int TOLD = 3;
    static final int RETURNED = 4;
    static final int LOST = 5;

    static final String IN_ORDER = "Exceptions are checked in the order in which a method lists them";
    static final String AHEAD_OF_CODES = "and ahead of error codes";

    final Book book;

    Bounds(Book book) {
        this.book = book;
    }

    abstract void run();

    interface Call {
        void with(int number);
    }

    void is(String what, long got, long due) {
        book.is(what, got, due);
    }

    void is(String what, boolean got, boolean due) {
        book.is(what, got, due);
    }

    void is(String what, String got, String due) {
        book.is(what, got, due);
    }

    void noIndex(String what, Runnable call) {
        book.fails(what, IndexOutOfBoundsException.class, call);
    }

    void noArgument(String what, Runnable call) {
        book.fails(what, IllegalArgumentException.class, call);
    }

    /** Numbers below 0, and from a first one on, are none. */
    void noIndexFrom(int first, String what, Call call) {
        for (int number : new int[] {-1, LEAST, first, MOST}) {
            noIndex(what + " " + number, () -> call.with(number));
        }
    }

    void noArgumentOutside(int least, int most, String what, Call call) {
        for (int number : new int[] {least - 1, LEAST, most + 1, MOST}) {
            noArgument(what + " " + number, () -> call.with(number));
        }
    }

    void row(String when, ChipNetwork net, int packet, int state, int at, int hops) {
        is("state " + when, net.packet(packet, 3), state);
        is("AT " + when, net.packet(packet, 4), at);
        is("HOPS " + when, net.packet(packet, 5), hops);
    }

    static String output(ChipNetwork net) {
        StringBuilder text = new StringBuilder();
        for (int index = 0; index < 100 && net.outputByte(index) != NONE; index++) {
            text.append((char) net.outputByte(index));
        }
        return text.toString();
    }

    static String times(int times, String text) {
        return text.repeat(times);
    }

    static ChipNetwork loaded(String text) {
        return Check.loaded(text);
    }
}
