import java.util.Arrays;

/** A network of nodes on a chip and the packets that find their ways through it. */
public final class ChipNetwork {
    public static final int NONE = -1;
    public static final int FULL = -2;
    public static final int TEXT_ERROR = -3;
    public static final int REFUSED = -4;

    private static final int MAX_SIDE = 6;
    private static final int MAX_NODES = 36;
    private static final int MAX_LINKS = 72;
    private static final int MAX_PACKETS = 24;
    private static final int MAX_LIMIT = 200;
    private static final int MAX_STALE = 1000;
    private static final int MAX_TIME = 30000;
    private static final int MAX_TICKS = 500;
    private static final int MAX_HOPS_OF_WAYS = 8;
    private static final int MAX_UNDO = 12;
    private static final int MAX_INPUT = 1000;
    private static final int MAX_COMMANDS = 40;
    private static final int MAX_LETTERS = 8;
    private static final int MAX_DIGITS = 5;
    private static final int BYTES_A_CALL = 20;
    private static final int MAX_OUTPUT = 40;
    private static final int PLACES = 2;
    private static final int FIRST_STALE = 50;

    private static final int WAYS = 4;
    private static final int EAST = 0;
    private static final int NORTH = 1;
    private static final int WEST = 2;
    private static final int SOUTH = 3;
    private static final String WAY_LETTERS = "enws";

    private static final int GOING = 0;
    private static final int TELLING = 1;
    private static final int RETURNING = 2;
    private static final int TOLD = 3;
    private static final int RETURNED = 4;
    private static final int LOST = 5;

    private static final int OPEN = 0;
    private static final int NO_LINK = 1;
    private static final int IN_MAP = 2;
    private static final int WARNED = 3;
    private static final int VISITED = 4;
    private static final int WORSE = 5;

    private static final int SYNTAX = 1;
    private static final int RANGE = 2;
    private static final int LINK = 3;
    private static final int TWICE = 4;
    private static final int LIMIT = 5;

    private static final int SEND = 0;
    private static final int TICK = 1;
    private static final int KILL = 2;
    private static final int MEND = 3;
    private static final int FORGET = 4;

    private final World world = new World();
    private final World forecast = new World();
    private final History history = new History();
    private final Paths paths = new Paths();
    private final Text text = new Text();
    private final Loader loader = new Loader();
    private final Script script = new Script();
    private final World[] snapshots = new World[PLACES];
    private final boolean[] isSaved = new boolean[PLACES];
    private final int[] output = new int[MAX_OUTPUT];
    private int outputLength;

    public ChipNetwork() {
        for (int place = 0; place < snapshots.length; place++) {
            snapshots[place] = new World();
        }
        world.clear();
    }

    // ---- input ----

    public int appendInput(int w0, int w1, int w2, int w3, int w4) {
        if (text.length + BYTES_A_CALL > MAX_INPUT) {
            return NONE;
        }
        text.appendWord(w0);
        text.appendWord(w1);
        text.appendWord(w2);
        text.appendWord(w3);
        text.appendWord(w4);
        return text.length;
    }

    public int truncateInput(int length) {
        if (length < 0 || length > text.length) {
            return NONE;
        }
        text.length = length;
        return length;
    }

    public int load() {
        boolean isRead = loader.readStatements(text, forecast);
        text.length = 0;
        if (!isRead) {
            return TEXT_ERROR;
        }
        world.copyFrom(forecast);
        history.clear();
        for (int place = 0; place < isSaved.length; place++) {
            isSaved[place] = false;
        }
        return world.grid.nodes;
    }

    public int errorCode() {
        return text.error;
    }

    public int errorPosition() {
        return text.errorStart;
    }

    // ---- what there is ----

    public int count(int what) {
        switch (what) {
            case 0: return world.grid.width;
            case 1: return world.grid.height;
            case 2: return world.stale;
            case 3: return world.time;
            case 4: return world.countLinks(false);
            case 5: return world.countLinks(true);
            case 6: return world.packetCount;
            case 7: return world.countActive();
            case 8: return world.countAllLessons(false);
            case 9: return world.countAllLessons(true);
            case 10: return world.sumHops();
            case 11: return history.size;
            default: return NONE;
        }
    }

    public int link(int node, int way) throws IndexOutOfBoundsException, IllegalArgumentException {
        requireNode(node);
        requireWay(way);
        return world.grid.linkAt(node, way);
    }

    public boolean isDead(int link) throws IndexOutOfBoundsException {
        requireLink(link);
        return world.isLinkDead(link);
    }

    public int end(int link, boolean isGreater) throws IndexOutOfBoundsException {
        requireLink(link);
        return isGreater ? world.grid.greaterEnd(link) : world.grid.lesserEnd(link);
    }

    public int lesson(int node, int link) throws IndexOutOfBoundsException {
        requireNode(node);
        requireLink(link);
        return world.lessonTime(node, link);
    }

    public int lessons(int node) throws IndexOutOfBoundsException {
        requireNode(node);
        return world.countLessons(node, false);
    }

    public int knowers(int link) throws IndexOutOfBoundsException {
        requireLink(link);
        int knowing = 0;
        for (int node = 0; node < world.grid.nodes; node++) {
            if (world.isWarned(node, link)) {
                knowing++;
            }
        }
        return knowing;
    }

    public int wrongLessons(int node) throws IndexOutOfBoundsException {
        requireNode(node);
        return world.countLessons(node, true);
    }

    public int wisest() {
        int best = NONE;
        int most = 0;
        for (int node = 0; node < world.grid.nodes; node++) {
            int held = world.countLessons(node, false);
            if (held > most) {
                most = held;
                best = node;
            }
        }
        return best;
    }

    public int nextStale() {
        int oldest = NONE;
        for (int node = 0; node < world.grid.nodes; node++) {
            for (int link = 0; link < MAX_LINKS; link++) {
                int found = world.lessonTime(node, link);
                if (world.isWarned(node, link) && (oldest == NONE || found < oldest)) {
                    oldest = found;
                }
            }
        }
        return oldest == NONE ? NONE : oldest + world.stale;
    }

    // ---- questions of ways ----

    public int distance(int from, int to) throws IndexOutOfBoundsException {
        requireNode(from);
        requireNode(to);
        return world.grid.apart(from, to);
    }

    public int shortest(int from, int to) throws IndexOutOfBoundsException {
        requireNode(from);
        requireNode(to);
        paths.openAlive(world);
        paths.spread(world.grid, from);
        return paths.hopsTo(to);
    }

    public int believed(int from, int to) throws IndexOutOfBoundsException {
        requireNode(from);
        requireNode(to);
        paths.openBelieved(world, from);
        paths.spread(world.grid, from);
        return paths.hopsTo(to);
    }

    public int ways(int from, int to, int hops) throws IndexOutOfBoundsException, IllegalArgumentException {
        requireNode(from);
        requireNode(to);
        if (hops < 0 || hops > MAX_HOPS_OF_WAYS) {
            throw new IllegalArgumentException("hops out of range");
        }
        return countWays(world, from, to, hops, 0L);
    }

    public int parts() {
        paths.openAlive(world);
        int sets = 0;
        long reached = 0L;
        for (int node = 0; node < world.grid.nodes; node++) {
            if ((reached & 1L << node) == 0L) {
                sets++;
                paths.spread(world.grid, node);
                reached |= paths.reachedNodes();
            }
        }
        return sets;
    }

    public int bridge(int index) throws IndexOutOfBoundsException {
        requireNotNegative(index);
        paths.openAlive(world);
        int before = 0;
        for (int link = 0; link < MAX_LINKS; link++) {
            if (paths.isBridge(world.grid, link)) {
                if (before == index) {
                    return link;
                }
                before++;
            }
        }
        return NONE;
    }

    public int cut(int from, int to) throws IndexOutOfBoundsException {
        requireNode(from);
        requireNode(to);
        if (from == to) {
            return REFUSED;
        }
        paths.openAlive(world);
        return paths.disjointWays(world.grid, from, to);
    }

    public int farthest(int node) throws IndexOutOfBoundsException {
        requireNode(node);
        paths.openAlive(world);
        paths.spread(world.grid, node);
        int best = node;
        int most = 0;
        for (int other = 0; other < world.grid.nodes; other++) {
            if (paths.hopsTo(other) > most) {
                most = paths.hopsTo(other);
                best = other;
            }
        }
        return best;
    }

    // ---- what is done ----

    public int send(int source, int target, int limit) throws IndexOutOfBoundsException, IllegalArgumentException {
        requireNode(source);
        requireNode(target);
        requireLimit(limit);
        return sendPacket(source, target, limit);
    }

    public int tick(int ticks) throws IllegalArgumentException {
        requireTicks(ticks);
        return passTime(ticks);
    }

    public int kill(int node, int way) throws IndexOutOfBoundsException, IllegalArgumentException {
        requireNode(node);
        requireWay(way);
        return turnLink(node, way, true);
    }

    public int mend(int node, int way) throws IndexOutOfBoundsException, IllegalArgumentException {
        requireNode(node);
        requireWay(way);
        return turnLink(node, way, false);
    }

    public int forget(int node) throws IndexOutOfBoundsException {
        requireNode(node);
        return dropLessons(node);
    }

    // ---- packets ----

    public int packet(int packet, int what) throws IndexOutOfBoundsException {
        requirePacket(packet);
        Packet one = world.packetOf(packet);
        return one == null ? NONE : one.property(what);
    }

    public int trail(int packet, int index) throws IndexOutOfBoundsException {
        requirePacket(packet);
        requireNotNegative(index);
        Packet one = world.packetOf(packet);
        return one == null ? NONE : one.trailNode(index);
    }

    public boolean isVisited(int packet, int node) throws IndexOutOfBoundsException {
        requirePacket(packet);
        requireNode(node);
        Packet one = world.packetOf(packet);
        return one != null && one.hasVisited(node);
    }

    public int found(int packet, int link) throws IndexOutOfBoundsException {
        requirePacket(packet);
        requireLink(link);
        Packet one = world.packetOf(packet);
        return one == null ? NONE : one.foundTime(link);
    }

    public int deadHome(int packet) throws IndexOutOfBoundsException {
        requirePacket(packet);
        Packet one = world.packetOf(packet);
        if (one == null) {
            return NONE;
        }
        for (int index = one.trailLength - 1; index > 0; index--) {
            int link = world.grid.linkBetween(one.trailNode(index), one.trailNode(index - 1));
            if (world.isLinkDead(link)) {
                return link;
            }
        }
        return NONE;
    }

    public int healed(int packet) throws IndexOutOfBoundsException {
        requirePacket(packet);
        Packet one = world.packetOf(packet);
        if (one == null) {
            return 0;
        }
        int alive = 0;
        for (int link = 0; link < MAX_LINKS; link++) {
            if (one.foundTime(link) != NONE && !world.isLinkDead(link)) {
                alive++;
            }
        }
        return alive;
    }

    public int choice(int packet) throws IndexOutOfBoundsException {
        requirePacket(packet);
        Packet one = world.packetOf(packet);
        return one == null || one.state != GOING ? NONE : world.bestWay(one);
    }

    public int reason(int packet, int way) throws IndexOutOfBoundsException, IllegalArgumentException {
        requirePacket(packet);
        requireWay(way);
        return reasonOf(world.packetOf(packet), way);
    }

    public int cause(int packet, int way) throws IndexOutOfBoundsException, IllegalArgumentException {
        requirePacket(packet);
        requireWay(way);
        Packet one = world.packetOf(packet);
        if (one == null) {
            return NONE;
        }
        switch (reasonOf(one, way)) {
            case IN_MAP: return one.foundTime(world.grid.linkAt(one.at, way));
            case WARNED: return world.lessonTime(one.at, world.grid.linkAt(one.at, way));
            case WORSE: return world.bestWay(one);
            default: return NONE;
        }
    }

    public int packetsIn(int state) throws IllegalArgumentException {
        if (state < GOING || state > LOST) {
            throw new IllegalArgumentException("no such state");
        }
        int set = 0;
        for (int k = 0; k < world.packetCount; k++) {
            Packet one = world.packetOf(k);
            if (one != null && one.state == state) {
                set |= 1 << k;
            }
        }
        return set;
    }

    public int packetsAt(int node) throws IndexOutOfBoundsException {
        requireNode(node);
        return world.activeAt(node);
    }

    public int packetsTo(int node) throws IndexOutOfBoundsException {
        requireNode(node);
        int set = 0;
        for (int k = 0; k < world.packetCount; k++) {
            Packet one = world.packetOf(k);
            if (one != null && one.target == node) {
                set |= 1 << k;
            }
        }
        return set;
    }

    public int busiest() {
        int best = NONE;
        int most = 0;
        for (int node = 0; node < world.grid.nodes; node++) {
            int here = Integer.bitCount(world.activeAt(node));
            if (here > most) {
                most = here;
                best = node;
            }
        }
        return best;
    }

    public int unvisited(int index) throws IndexOutOfBoundsException {
        requireNotNegative(index);
        long seen = world.visitedByAny();
        int before = 0;
        for (int node = 0; node < world.grid.nodes; node++) {
            if ((seen & 1L << node) == 0L) {
                if (before == index) {
                    return node;
                }
                before++;
            }
        }
        return NONE;
    }

    // ---- forecasts ----

    public int stateIn(int packet, int ticks) throws IndexOutOfBoundsException, IllegalArgumentException {
        requirePacket(packet);
        requireTicks(ticks);
        forecast.copyFrom(world);
        forecast.pass(ticks);
        Packet one = forecast.packetOf(packet);
        return one == null ? NONE : one.state;
    }

    public int quietIn(int ticks) throws IllegalArgumentException {
        requireTicks(ticks);
        forecast.copyFrom(world);
        for (int passed = 0; passed < ticks; passed++) {
            if (forecast.countActive() == 0) {
                return passed;
            }
            forecast.pass(1);
        }
        return forecast.countActive() == 0 ? ticks : NONE;
    }

    public int fate(int source, int target, int limit) throws IndexOutOfBoundsException, IllegalArgumentException {
        requireNode(source);
        requireNode(target);
        requireLimit(limit);
        if (source == target) {
            return REFUSED;
        }
        Packet one = forecastPacket(source, target, limit);
        return one == null || one.isActive() ? NONE : one.state;
    }

    // A LIMIT changes nothing before the HOPS reach it, and a packet makes no HOPS behind TARGET:
    // the HOPS of one that the greatest LIMIT lets through are the least LIMIT that does.
    public int leastLimit(int from, int to) throws IndexOutOfBoundsException {
        requireNode(from);
        requireNode(to);
        if (from == to) {
            return REFUSED;
        }
        Packet one = forecastPacket(from, to, MAX_LIMIT);
        return one == null || one.state != TOLD ? NONE : one.hops;
    }

    public double meanHops() throws ArithmeticException {
        int sum = 0;
        int told = 0;
        for (int k = 0; k < world.packetCount; k++) {
            Packet one = world.packetOf(k);
            if (one != null && one.state == TOLD) {
                sum += one.hops;
                told++;
            }
        }
        if (told == 0) {
            throw new ArithmeticException("no packet is told");
        }
        return (double) sum / (double) told;
    }

    public int mostFound() {
        int best = NONE;
        int most = 0;
        for (int link = 0; link < MAX_LINKS; link++) {
            int finders = world.countFinders(link);
            if (finders > most) {
                most = finders;
                best = link;
            }
        }
        return best;
    }

    // ---- output ----

    public int write(int packet) throws IndexOutOfBoundsException {
        requirePacket(packet);
        Packet one = world.packetOf(packet);
        outputLength = 0;
        if (one == null) {
            return 0;
        }
        if (one.source >= 10) {
            putOutput('0' + one.source / 10);
        }
        putOutput('0' + one.source % 10);
        for (int index = 1; index < one.trailLength; index++) {
            int way = world.grid.wayTo(one.trailNode(index - 1), one.trailNode(index));
            if (way >= 0 && way < WAY_LETTERS.length()) {
                putOutput(WAY_LETTERS.charAt(way));
            }
        }
        return outputLength;
    }

    public int outputByte(int index) {
        return index < outputLength ? valueAt(output, index) : NONE;
    }

    // ---- scripts, steps back, snapshots ----

    public int play() {
        boolean isRead = script.readCommands(text);
        text.length = 0;
        if (!isRead) {
            return TEXT_ERROR;
        }
        for (int n = 0; n < script.commands; n++) {
            if (!perform(n)) {
                return n;
            }
        }
        return script.commands;
    }

    public int undo() {
        return history.takeBack(world) ? history.size : NONE;
    }

    public int digest() {
        int sum = 31 + world.time;
        for (int link = 0; link < MAX_LINKS; link++) {
            if (world.grid.hasLink(link)) {
                sum = 31 * sum + (world.isLinkDead(link) ? 1 : 0);
            }
        }
        for (int k = 0; k < world.packetCount; k++) {
            Packet one = world.packetOf(k);
            if (one != null) {
                sum = 31 * sum + one.at;
                sum = 31 * sum + one.state;
                sum = 31 * sum + one.hops;
            }
        }
        return 31 * sum + world.countAllLessons(false);
    }

    public boolean saveSnapshot(int place) {
        World kept = snapshotOf(place);
        if (kept == null || place < 0 || place >= isSaved.length) {
            return false;
        }
        kept.copyFrom(world);
        isSaved[place] = true;
        return true;
    }

    public boolean restoreSnapshot(int place) {
        World kept = snapshotOf(place);
        if (kept == null || place < 0 || place >= isSaved.length || !isSaved[place]) {
            return false;
        }
        world.copyFrom(kept);
        history.clear();
        return true;
    }

    // ---- what the methods share ----

    private void requireNode(int node) {
        if (!world.grid.hasNode(node)) {
            throw new IndexOutOfBoundsException("no such node");
        }
    }

    private void requireLink(int link) {
        if (!world.grid.hasLink(link)) {
            throw new IndexOutOfBoundsException("no such link");
        }
    }

    private void requirePacket(int packet) {
        if (packet < 0 || packet >= world.packetCount) {
            throw new IndexOutOfBoundsException("no such packet");
        }
    }

    private static void requireNotNegative(int index) {
        if (index < 0) {
            throw new IndexOutOfBoundsException("index is negative");
        }
    }

    private static void requireWay(int way) {
        if (way < 0 || way >= WAYS) {
            throw new IllegalArgumentException("no such direction");
        }
    }

    private static void requireLimit(int limit) {
        if (limit < 1 || limit > MAX_LIMIT) {
            throw new IllegalArgumentException("limit out of range");
        }
    }

    private static void requireTicks(int ticks) {
        if (ticks < 1 || ticks > MAX_TICKS) {
            throw new IllegalArgumentException("ticks out of range");
        }
    }

    private int sendPacket(int source, int target, int limit) {
        if (source == target) {
            return REFUSED;
        }
        if (world.packetCount >= MAX_PACKETS) {
            return FULL;
        }
        history.remember(world);
        world.addPacket(source, target, limit);
        return world.packetCount - 1;
    }

    private int passTime(int ticks) {
        if (world.time + ticks > MAX_TIME) {
            return FULL;
        }
        history.remember(world);
        world.pass(ticks);
        return world.time;
    }

    private int turnLink(int node, int way, boolean isToDie) {
        int link = world.grid.linkAt(node, way);
        if (link == NONE || world.isLinkDead(link) == isToDie) {
            return REFUSED;
        }
        history.remember(world);
        world.setDead(link, isToDie);
        return world.countLinks(true);
    }

    private int dropLessons(int node) {
        history.remember(world);
        int held = world.countLessons(node, false);
        world.clearLessons(node);
        return held;
    }

    /** Does a command of the script; false if its method would throw or return an error code. */
    private boolean perform(int n) {
        int first = script.part(n, 1);
        int second = script.part(n, 2);
        boolean hasFirst = world.grid.hasNode(first);
        switch (script.part(n, 0)) {
            case SEND:
                return hasFirst && world.grid.hasNode(second)
                        && sendPacket(first, second, script.part(n, 3)) >= 0;
            case TICK:
                return passTime(first) >= 0;
            case KILL:
                return hasFirst && turnLink(first, second, true) >= 0;
            case MEND:
                return hasFirst && turnLink(first, second, false) >= 0;
            case FORGET:
                return hasFirst && dropLessons(first) >= 0;
            default:
                return false;
        }
    }

    private int reasonOf(Packet one, int way) {
        if (one == null || one.state != GOING) {
            return NONE;
        }
        int obstacle = world.obstacle(one, way);
        return obstacle == OPEN && world.bestWay(one) != way ? WORSE : obstacle;
    }

    /** Sends a packet in the forecast and lets ticks go by until it is in a last state. */
    private Packet forecastPacket(int source, int target, int limit) {
        forecast.copyFrom(world);
        Packet one = forecast.addPacket(source, target, limit);
        for (int n = 0; n < MAX_TICKS && one != null && one.isActive(); n++) {
            forecast.pass(1);
        }
        return one;
    }

    private World snapshotOf(int place) {
        return place < 0 || place >= snapshots.length ? null : snapshots[place];
    }

    private void putOutput(int value) {
        if (outputLength >= 0 && outputLength < output.length) {
            output[outputLength] = value;
            outputLength++;
        }
    }

    // The depth is kept low by hops, at most MAX_HOPS_OF_WAYS.
    private static int countWays(World world, int node, int to, int hops, long passed) {
        if (node == to || hops <= 0) {
            return node == to && hops == 0 ? 1 : 0;
        }
        if (world.grid.apart(node, to) > hops) {
            return 0;
        }
        long passedHere = passed | 1L << node;
        int sum = 0;
        for (int way = 0; way < WAYS; way++) {
            int next = world.grid.beyond(node, way);
            if (next != NONE && (passedHere & 1L << next) == 0L
                    && !world.isLinkDead(world.grid.linkBetween(node, next))) {
                sum += countWays(world, next, to, hops - 1, passedHere);
            }
        }
        return sum;
    }

    private static int valueAt(int[] row, int index) {
        return index >= 0 && index < row.length ? row[index] : NONE;
    }

    private static void putAt(int[] row, int index, int value) {
        if (index >= 0 && index < row.length) {
            row[index] = value;
        }
    }

    /** The nodes, where they are and what is beyond them. */
    private static final class Grid {
        int width;
        int height;
        int nodes;
        final int[] columns = new int[MAX_NODES];
        final int[] rows = new int[MAX_NODES];
        final int[] nexts = new int[MAX_NODES * WAYS];

        void shape(int newWidth, int newHeight) {
            width = newWidth;
            height = newHeight;
            nodes = newWidth * newHeight;
            for (int y = 0; y < height; y++) {
                for (int x = 0; x < width; x++) {
                    settle(width * y + x, x, y);
                }
            }
        }

        private void settle(int node, int x, int y) {
            putAt(columns, node, x);
            putAt(rows, node, y);
            putAt(nexts, WAYS * node + EAST, x + 1 < width ? node + 1 : NONE);
            putAt(nexts, WAYS * node + NORTH, y + 1 < height ? node + width : NONE);
            putAt(nexts, WAYS * node + WEST, x > 0 ? node - 1 : NONE);
            putAt(nexts, WAYS * node + SOUTH, y > 0 ? node - width : NONE);
        }

        boolean hasNode(int node) {
            return node >= 0 && node < nodes;
        }

        /** The next node in a direction, NONE if there is none. */
        int beyond(int node, int way) {
            if (node < 0 || node >= nodes || way < 0 || way >= WAYS) {
                return NONE;
            }
            int index = WAYS * node + way;
            return index < nexts.length ? nexts[index] : NONE;
        }

        // Of two nodes side by side only those of one column are WIDTH apart: with a WIDTH of 1 there is no other pair.
        int linkBetween(int node, int next) {
            int lesser = node < next ? node : next;
            int greater = node < next ? next : node;
            return 2 * lesser + (greater - lesser == width ? 1 : 0);
        }

        int linkAt(int node, int way) {
            int next = beyond(node, way);
            return next == NONE ? NONE : linkBetween(node, next);
        }

        boolean hasLink(int link) {
            return link >= 0 && greaterEnd(link) != NONE;
        }

        int lesserEnd(int link) {
            return link >> 1;
        }

        // The last bit of a link is the DIRECTION in which it leaves its lesser node: 0 east, 1 north.
        int greaterEnd(int link) {
            return beyond(link >> 1, link & 1);
        }

        int wayTo(int node, int next) {
            for (int way = 0; way < WAYS; way++) {
                if (beyond(node, way) == next) {
                    return way;
                }
            }
            return NONE;
        }

        int apart(int from, int to) {
            if (from < 0 || from >= columns.length || to < 0 || to >= columns.length
                    || from >= rows.length || to >= rows.length) {
                return 0;
            }
            int across = columns[from] - columns[to];
            int along = rows[from] - rows[to];
            return (across < 0 ? -across : across) + (along < 0 ? -along : along);
        }
    }

    /** A packet, on its way or at its end. */
    private static final class Packet {
        int source;
        int target;
        int limit;
        int state;
        int at;
        int hops;
        int sentTime;
        int endTime;
        int trailLength;
        long visited;
        final int[] trail = new int[MAX_NODES];
        final int[] map = new int[MAX_LINKS];

        void begin(int newSource, int newTarget, int newLimit, int time) {
            source = newSource;
            target = newTarget;
            limit = newLimit;
            state = GOING;
            hops = 0;
            sentTime = time;
            endTime = NONE;
            trailLength = 0;
            visited = 0L;
            Arrays.fill(map, NONE);
            enter(newSource);
        }

        void copyFrom(Packet other) {
            source = other.source;
            target = other.target;
            limit = other.limit;
            state = other.state;
            at = other.at;
            hops = other.hops;
            sentTime = other.sentTime;
            endTime = other.endTime;
            trailLength = other.trailLength;
            visited = other.visited;
            System.arraycopy(other.trail, 0, trail, 0, MAX_NODES);
            System.arraycopy(other.map, 0, map, 0, MAX_LINKS);
        }

        boolean isActive() {
            return state <= RETURNING;
        }

        boolean isHome() {
            return trailLength <= 1;
        }

        void enter(int node) {
            at = node;
            visited |= 1L << node;
            if (trailLength >= 0 && trailLength < trail.length) {
                trail[trailLength] = node;
                trailLength++;
            }
        }

        void finish(int lastState, int time) {
            state = lastState;
            endTime = time;
        }

        int trailNode(int index) {
            return index >= 0 && index < trailLength && index < trail.length ? trail[index] : NONE;
        }

        boolean hasVisited(int node) {
            return (visited & 1L << node) != 0L;
        }

        int foundTime(int link) {
            return link >= 0 && link < map.length ? map[link] : NONE;
        }

        int countFound() {
            int links = 0;
            for (int link = 0; link < map.length; link++) {
                if (map[link] != NONE) {
                    links++;
                }
            }
            return links;
        }

        int property(int what) {
            switch (what) {
                case 0: return source;
                case 1: return target;
                case 2: return limit;
                case 3: return state;
                case 4: return at;
                case 5: return hops;
                case 6: return trailLength;
                case 7: return Long.bitCount(visited);
                case 8: return countFound();
                case 9: return sentTime;
                case 10: return endTime;
                default: return NONE;
            }
        }
    }

    /** Links, lessons, packets and TIME on their grid: what undo, snapshots and forecasts copy. */
    private static final class World {
        final Grid grid = new Grid();
        final boolean[] dead = new boolean[MAX_LINKS];
        final int[] lessonTimes = new int[MAX_NODES * MAX_LINKS];
        // One more than can be sent: fate() forecasts a 25th.
        final Packet[] packets = new Packet[MAX_PACKETS + 1];
        int stale;
        int time;
        int packetCount;

        World() {
            for (int k = 0; k < packets.length; k++) {
                packets[k] = new Packet();
            }
        }

        void clear() {
            grid.shape(1, 1);
            for (int link = 0; link < dead.length; link++) {
                dead[link] = false;
            }
            Arrays.fill(lessonTimes, NONE);
            stale = FIRST_STALE;
            time = 0;
            packetCount = 0;
        }

        void copyFrom(World other) {
            if (grid.width != other.grid.width || grid.height != other.grid.height) {
                grid.shape(other.grid.width, other.grid.height);
            }
            for (int link = 0; link < dead.length && link < other.dead.length; link++) {
                dead[link] = other.dead[link];
            }
            System.arraycopy(other.lessonTimes, 0, lessonTimes, 0, MAX_NODES * MAX_LINKS);
            stale = other.stale;
            time = other.time;
            packetCount = other.packetCount;
            for (int k = 0; k < packetCount; k++) {
                Packet mine = packetOf(k);
                Packet its = other.packetOf(k);
                if (mine != null && its != null) {
                    mine.copyFrom(its);
                }
            }
        }

        Packet packetOf(int k) {
            return k >= 0 && k < packetCount && k < packets.length ? packets[k] : null;
        }

        /** Sends a packet and returns it; null if there is no room. */
        Packet addPacket(int source, int target, int limit) {
            if (packetCount >= packets.length) {
                return null;
            }
            packetCount++;
            Packet one = packetOf(packetCount - 1);
            if (one != null) {
                one.begin(source, target, limit, time);
            }
            return one;
        }

        boolean isLinkDead(int link) {
            return link >= 0 && link < dead.length && dead[link];
        }

        void setDead(int link, boolean isToDie) {
            if (link >= 0 && link < dead.length) {
                dead[link] = isToDie;
            }
        }

        int countLinks(boolean onlyDead) {
            int links = 0;
            for (int link = 0; link < MAX_LINKS; link++) {
                if (grid.hasLink(link) && (!onlyDead || isLinkDead(link))) {
                    links++;
                }
            }
            return links;
        }

        int lessonTime(int node, int link) {
            if (node < 0 || node >= MAX_NODES || link < 0 || link >= MAX_LINKS) {
                return NONE;
            }
            int index = MAX_LINKS * node + link;
            return index < lessonTimes.length ? lessonTimes[index] : NONE;
        }

        /** Tells whether a lesson of a node that holds says that a link is dead. */
        boolean isWarned(int node, int link) {
            int found = lessonTime(node, link);
            return found != NONE && time < found + stale;
        }

        void learn(int node, int link, int found) {
            if (node < 0 || node >= MAX_NODES || link < 0 || link >= MAX_LINKS) {
                return;
            }
            int index = MAX_LINKS * node + link;
            if (index < lessonTimes.length && lessonTimes[index] < found) {
                lessonTimes[index] = found;
            }
        }

        void clearLessons(int node) {
            for (int link = 0; link < MAX_LINKS; link++) {
                putAt(lessonTimes, MAX_LINKS * node + link, NONE);
            }
        }

        int countLessons(int node, boolean onlyWrong) {
            int held = 0;
            for (int link = 0; link < MAX_LINKS; link++) {
                if (isWarned(node, link) && !(onlyWrong && isLinkDead(link))) {
                    held++;
                }
            }
            return held;
        }

        int countAllLessons(boolean onlyWrong) {
            int held = 0;
            for (int node = 0; node < grid.nodes; node++) {
                held += countLessons(node, onlyWrong);
            }
            return held;
        }

        int countActive() {
            int active = 0;
            for (int k = 0; k < packetCount; k++) {
                Packet one = packetOf(k);
                if (one != null && one.isActive()) {
                    active++;
                }
            }
            return active;
        }

        int activeAt(int node) {
            int set = 0;
            for (int k = 0; k < packetCount; k++) {
                Packet one = packetOf(k);
                if (one != null && one.isActive() && one.at == node) {
                    set |= 1 << k;
                }
            }
            return set;
        }

        long visitedByAny() {
            long seen = 0L;
            for (int k = 0; k < packetCount; k++) {
                Packet one = packetOf(k);
                if (one != null) {
                    seen |= one.visited;
                }
            }
            return seen;
        }

        int countFinders(int link) {
            int finders = 0;
            for (int k = 0; k < packetCount; k++) {
                Packet one = packetOf(k);
                if (one != null && one.foundTime(link) != NONE) {
                    finders++;
                }
            }
            return finders;
        }

        int sumHops() {
            int sum = 0;
            for (int k = 0; k < packetCount; k++) {
                Packet one = packetOf(k);
                if (one != null) {
                    sum += one.hops;
                }
            }
            return sum;
        }

        /** Lets ticks go by; as soon as no packet moves any more only TIME goes on. */
        void pass(int ticks) {
            for (int n = 0; n < ticks; n++) {
                if (countActive() == 0) {
                    time += ticks - n;
                    return;
                }
                for (int k = 0; k < packetCount; k++) {
                    Packet one = packetOf(k);
                    if (one != null && one.isActive()) {
                        move(one);
                    }
                }
                time++;
            }
        }

        private void move(Packet one) {
            if (one.state != GOING) {
                moveHome(one);
                return;
            }
            int way = bestWay(one);
            if (way == NONE) {
                moveOutOfDeadEnd(one);
                return;
            }
            int next = grid.beyond(one.at, way);
            int link = grid.linkBetween(one.at, next);
            if (isLinkDead(link)) {
                putAt(one.map, link, time);
                learn(one.at, link, time);
                return;
            }
            one.hops++;
            one.enter(next);
            if (next == one.target) {
                one.state = TELLING;
            } else if (one.hops == one.limit) {
                one.state = RETURNING;
            }
        }

        private void moveOutOfDeadEnd(Packet one) {
            if (one.isHome()) {
                one.finish(RETURNED, time);
                return;
            }
            one.hops++;
            if (stepBack(one) && one.hops == one.limit) {
                one.state = RETURNING;
            }
        }

        private void moveHome(Packet one) {
            if (one.isHome()) {
                one.finish(one.state == TELLING ? TOLD : RETURNED, time);
            } else if (stepBack(one)) {
                teach(one);
            }
        }

        /** Steps back on the TRAIL; false if the packet is lost at it. */
        private boolean stepBack(Packet one) {
            int back = one.trailNode(one.trailLength - 2);
            if (isLinkDead(grid.linkBetween(one.at, back))) {
                one.finish(LOST, time);
                return false;
            }
            one.at = back;
            one.trailLength--;
            return true;
        }

        private void teach(Packet one) {
            for (int link = 0; link < MAX_LINKS; link++) {
                int found = one.foundTime(link);
                if (found != NONE) {
                    learn(one.at, link, found);
                }
            }
        }

        /** The direction that a going packet chooses, NONE if there is none. */
        int bestWay(Packet one) {
            int best = NONE;
            int least = 0;
            for (int way = 0; way < WAYS; way++) {
                if (obstacle(one, way) == OPEN) {
                    int left = grid.apart(grid.beyond(one.at, way), one.target);
                    if (best == NONE || left < least) {
                        best = way;
                        least = left;
                    }
                }
            }
            return best;
        }

        /** The first reason why a packet can't choose a direction, OPEN if there is none. */
        int obstacle(Packet one, int way) {
            int next = grid.beyond(one.at, way);
            if (next == NONE) {
                return NO_LINK;
            }
            int link = grid.linkBetween(one.at, next);
            if (one.foundTime(link) != NONE) {
                return IN_MAP;
            }
            int found = lessonTime(one.at, link);
            if (found != NONE && time < found + stale) {
                return WARNED;
            }
            return one.hasVisited(next) ? VISITED : OPEN;
        }
    }

    /** The latest states that undo() goes back to, the oldest one in place first. */
    private static final class History {
        final World[] kept = new World[MAX_UNDO];
        int first;
        int size;

        History() {
            for (int n = 0; n < kept.length; n++) {
                kept[n] = new World();
            }
        }

        void clear() {
            first = 0;
            size = 0;
        }

        void remember(World world) {
            if (size >= MAX_UNDO) {
                first = (first + 1) % MAX_UNDO;
                size--;
            }
            World slot = slotOf(size);
            if (slot != null) {
                slot.copyFrom(world);
                size++;
            }
        }

        boolean takeBack(World world) {
            World slot = size > 0 ? slotOf(size - 1) : null;
            if (slot == null) {
                return false;
            }
            size--;
            world.copyFrom(slot);
            return true;
        }

        private World slotOf(int n) {
            int index = (first + n) % MAX_UNDO;
            return index >= 0 && index < kept.length ? kept[index] : null;
        }
    }

    /** Searches over open links: first openAlive or openBelieved, then a search, then its results. */
    private static final class Paths {
        final boolean[] isOpen = new boolean[MAX_LINKS];
        // Ways that cut() has laid: 1 from the lesser node to the greater one, -1 the other way.
        final int[] flow = new int[MAX_LINKS];
        final int[] hops = new int[MAX_NODES];
        final int[] queue = new int[MAX_NODES];
        final int[] cameFrom = new int[MAX_NODES];

        void openAlive(World world) {
            Arrays.fill(flow, 0);
            for (int link = 0; link < isOpen.length; link++) {
                isOpen[link] = world.grid.hasLink(link) && !world.isLinkDead(link);
            }
        }

        void openBelieved(World world, int node) {
            Arrays.fill(flow, 0);
            for (int link = 0; link < isOpen.length; link++) {
                isOpen[link] = world.grid.hasLink(link) && !world.isWarned(node, link);
            }
        }

        /** Finds the fewest hops from a node to all others. */
        void spread(Grid grid, int from) {
            Arrays.fill(hops, NONE);
            putAt(hops, from, 0);
            putAt(queue, 0, from);
            int size = 1;
            for (int head = 0; head < size && head < queue.length; head++) {
                int node = queue[head];
                for (int way = 0; way < WAYS; way++) {
                    int next = grid.beyond(node, way);
                    if (next != NONE && hopsTo(next) == NONE && hasRoom(node, next, grid.linkBetween(node, next))) {
                        putAt(hops, next, hopsTo(node) + 1);
                        putAt(cameFrom, next, node);
                        putAt(queue, size, next);
                        size++;
                    }
                }
            }
        }

        private boolean hasRoom(int node, int next, int link) {
            if (link < 0 || link >= isOpen.length || link >= flow.length) {
                return false;
            }
            return isOpen[link] && (node < next ? flow[link] : -flow[link]) < 1;
        }

        int hopsTo(int node) {
            return valueAt(hops, node);
        }

        long reachedNodes() {
            long reached = 0L;
            for (int node = 0; node < hops.length; node++) {
                if (hops[node] != NONE) {
                    reached |= 1L << node;
                }
            }
            return reached;
        }

        boolean isBridge(Grid grid, int link) {
            if (link < 0 || link >= isOpen.length || !isOpen[link]) {
                return false;
            }
            isOpen[link] = false;
            spread(grid, grid.lesserEnd(link));
            isOpen[link] = true;
            return hopsTo(grid.greaterEnd(link)) == NONE;
        }

        // As many ways as share no link can be laid as links must be cut; a node has at most four links.
        int disjointWays(Grid grid, int from, int to) {
            for (int laid = 0; laid < WAYS; laid++) {
                spread(grid, from);
                if (hopsTo(to) == NONE) {
                    return laid;
                }
                layWay(grid, from, to);
            }
            return WAYS;
        }

        private void layWay(Grid grid, int from, int to) {
            int node = to;
            for (int n = 0; n < MAX_NODES && node != from; n++) {
                int before = valueAt(cameFrom, node);
                int link = grid.linkBetween(before, node);
                putAt(flow, link, valueAt(flow, link) + (before < node ? 1 : -1));
                node = before;
            }
        }
    }

    /** The input buffer, its tokens and the error in them. */
    private static final class Text {
        static final int END = 0;
        static final int WORD = 1;
        static final int NUMBER = 2;
        static final int SEMICOLON = 3;
        static final int BAD = 4;

        final int[] bytes = new int[MAX_INPUT];
        int length;
        int place;
        int kind;
        int start;
        int value;
        int error;
        int errorStart = NONE;

        void appendWord(int word) {
            for (int shift = 24; shift >= 0; shift -= 8) {
                if (length >= 0 && length < bytes.length) {
                    bytes[length] = word >> shift & 255;
                    length++;
                }
            }
        }

        void beginReading() {
            place = 0;
            error = 0;
            errorStart = NONE;
        }

        /** Notes an error at the token that was read last. */
        int fail(int code) {
            error = code;
            errorStart = start;
            return NONE;
        }

        boolean refuse(int code) {
            fail(code);
            return false;
        }

        void readToken() {
            while (place < length && isBlank(valueAt(bytes, place))) {
                place++;
            }
            start = place;
            int first = valueAt(bytes, place);
            if (place >= length) {
                kind = END;
            } else if (isLetter(first)) {
                skipLetters();
                kind = place - start <= MAX_LETTERS ? WORD : BAD;
            } else if (isDigit(first)) {
                skipDigits();
                kind = place - start <= MAX_DIGITS ? NUMBER : BAD;
            } else {
                place++;
                kind = first == ';' ? SEMICOLON : BAD;
            }
        }

        private void skipLetters() {
            while (place < length && isLetter(valueAt(bytes, place))) {
                place++;
            }
        }

        private void skipDigits() {
            value = 0;
            while (place < length && isDigit(valueAt(bytes, place))) {
                value = 10 * value + valueAt(bytes, place) - '0';
                place++;
            }
        }

        private static boolean isBlank(int sign) {
            return sign == ' ' || sign == '\n';
        }

        private static boolean isLetter(int sign) {
            return sign >= 'a' && sign <= 'z';
        }

        private static boolean isDigit(int sign) {
            return sign >= '0' && sign <= '9';
        }

        boolean isWord(String word) {
            if (kind != WORD || place - start != word.length()) {
                return false;
            }
            for (int n = 0; n < word.length(); n++) {
                if (valueAt(bytes, start + n) != word.charAt(n)) {
                    return false;
                }
            }
            return true;
        }

        /** Reads a number of a range; NONE if there is an error. */
        int readNumber(int least, int most) {
            readToken();
            if (kind != NUMBER) {
                return fail(SYNTAX);
            }
            return value < least || value > most ? fail(RANGE) : value;
        }

        /** Reads a direction; NONE if there is an error. */
        int readWay() {
            readToken();
            if (isWord("east")) {
                return EAST;
            }
            if (isWord("north")) {
                return NORTH;
            }
            if (isWord("west")) {
                return WEST;
            }
            return isWord("south") ? SOUTH : fail(SYNTAX);
        }

        boolean readSemicolon() {
            readToken();
            return kind == SEMICOLON || refuse(SYNTAX);
        }
    }

    /** Reads the text of load() into a world of its own, so that an error changes no other. */
    private static final class Loader {
        boolean hasStale;

        boolean readStatements(Text text, World draft) {
            draft.clear();
            hasStale = false;
            text.beginReading();
            for (int n = 0; n <= MAX_INPUT; n++) {
                text.readToken();
                if (text.kind == Text.END) {
                    return true;
                }
                boolean isRead;
                if (text.isWord("grid")) {
                    isRead = n == 0 ? readGrid(text, draft) : text.refuse(TWICE);
                } else if (text.isWord("stale")) {
                    isRead = hasStale ? text.refuse(TWICE) : readStale(text, draft);
                } else if (text.isWord("dead")) {
                    isRead = readDead(text, draft);
                } else {
                    isRead = text.isWord("lesson") ? readLesson(text, draft) : text.refuse(SYNTAX);
                }
                if (!isRead) {
                    return false;
                }
            }
            return true;
        }

        private boolean readGrid(Text text, World draft) {
            int width = text.readNumber(1, MAX_SIDE);
            int height = width == NONE ? NONE : text.readNumber(1, MAX_SIDE);
            if (height == NONE) {
                return false;
            }
            draft.grid.shape(width, height);
            return text.readSemicolon();
        }

        private boolean readStale(Text text, World draft) {
            int stale = text.readNumber(1, MAX_STALE);
            if (stale == NONE) {
                return false;
            }
            hasStale = true;
            draft.stale = stale;
            return text.readSemicolon();
        }

        private boolean readDead(Text text, World draft) {
            int link = readLink(text, draft);
            if (link == NONE) {
                return false;
            }
            if (draft.isLinkDead(link)) {
                return text.refuse(TWICE);
            }
            draft.setDead(link, true);
            return text.readSemicolon();
        }

        private boolean readLesson(Text text, World draft) {
            int learner = text.readNumber(0, draft.grid.nodes - 1);
            int link = learner == NONE ? NONE : readLink(text, draft);
            if (link == NONE) {
                return false;
            }
            draft.learn(learner, link, 0);
            return text.readSemicolon();
        }

        private int readLink(Text text, World draft) {
            int node = text.readNumber(0, draft.grid.nodes - 1);
            int way = node == NONE ? NONE : text.readWay();
            if (way == NONE) {
                return NONE;
            }
            int link = draft.grid.linkAt(node, way);
            return link == NONE ? text.fail(LINK) : link;
        }
    }

    /** Reads the text of play() into rows of a command and its numbers. */
    private static final class Script {
        static final int PARTS = 4;

        final int[] parts = new int[MAX_COMMANDS * PARTS];
        int commands;

        int part(int n, int column) {
            return valueAt(parts, PARTS * n + column);
        }

        boolean readCommands(Text text) {
            commands = 0;
            text.beginReading();
            for (int n = 0; n <= MAX_INPUT; n++) {
                text.readToken();
                if (text.kind == Text.END) {
                    return true;
                }
                if (!readCommand(text)) {
                    return false;
                }
                commands++;
            }
            return true;
        }

        private boolean readCommand(Text text) {
            int verb = verbOf(text);
            if (verb == NONE) {
                return text.refuse(SYNTAX);
            }
            if (commands >= MAX_COMMANDS) {
                return text.refuse(LIMIT);
            }
            return keep(0, verb) && readParts(text, verb) && text.readSemicolon();
        }

        private boolean readParts(Text text, int verb) {
            if (verb == TICK) {
                return keep(1, text.readNumber(1, MAX_TICKS));
            }
            if (!keep(1, text.readNumber(0, MAX_NODES - 1))) {
                return false;
            }
            switch (verb) {
                case SEND:
                    return keep(2, text.readNumber(0, MAX_NODES - 1)) && keep(3, text.readNumber(1, MAX_LIMIT));
                case FORGET:
                    return true;
                default:
                    return keep(2, text.readWay());
            }
        }

        /** Keeps a part of the command that is read; false if it could not be read. */
        private boolean keep(int column, int value) {
            putAt(parts, PARTS * commands + column, value);
            return value != NONE;
        }

        private int verbOf(Text text) {
            if (text.isWord("send")) {
                return SEND;
            }
            if (text.isWord("tick")) {
                return TICK;
            }
            if (text.isWord("kill")) {
                return KILL;
            }
            if (text.isWord("mend")) {
                return MEND;
            }
            return text.isWord("forget") ? FORGET : NONE;
        }
    }
}
