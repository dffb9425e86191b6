import java.util.ArrayDeque;
import java.util.ArrayList;
import java.util.Deque;
import java.util.HashSet;
import java.util.List;
import java.util.Map;
import java.util.Set;
import java.util.TreeMap;
import java.util.TreeSet;
import java.util.regex.Matcher;
import java.util.regex.Pattern;

/** The document told a second time, plainly and slowly, with the Java library: ModelTest compares the class with it. */
public final class Model {
    static final int[] ACROSS = {1, 0, -1, 0};
    static final int[] UP = {0, 1, 0, -1};
    static final List<String> WORDS = List.of("east", "north", "west", "south");

    static final class Traveller {
        int source;
        int target;
        int limit;
        int state;
        int hops;
        int sent;
        int ended = -1;
        List<Integer> trail = new ArrayList<>();
        Set<Integer> visited = new TreeSet<>();
        Map<Integer, Integer> map = new TreeMap<>();

        int at() {
            return trail.get(trail.size() - 1);
        }

        Traveller copy() {
            Traveller t = new Traveller();
            t.source = source;
            t.target = target;
            t.limit = limit;
            t.state = state;
            t.hops = hops;
            t.sent = sent;
            t.ended = ended;
            t.trail = new ArrayList<>(trail);
            t.visited = new TreeSet<>(visited);
            t.map = new TreeMap<>(map);
            return t;
        }
    }

    static final class State {
        int width = 1;
        int height = 1;
        int stale = 50;
        int time;
        Set<Integer> dead = new TreeSet<>();
        List<Map<Integer, Integer>> lessons = new ArrayList<>();
        List<Traveller> packets = new ArrayList<>();

        State() {
            for (int n = 0; n < 36; n++) {
                lessons.add(new TreeMap<>());
            }
        }

        State copy() {
            State s = new State();
            s.width = width;
            s.height = height;
            s.stale = stale;
            s.time = time;
            s.dead = new TreeSet<>(dead);
            s.lessons = new ArrayList<>();
            for (Map<Integer, Integer> of : lessons) {
                s.lessons.add(new TreeMap<>(of));
            }
            for (Traveller t : packets) {
                s.packets.add(t.copy());
            }
            return s;
        }

        int nodes() {
            return width * height;
        }

        int next(int node, int way) {
            int x = node % width + ACROSS[way];
            int y = node / width + UP[way];
            return x < 0 || y < 0 || x >= width || y >= height ? -1 : width * y + x;
        }

        int link(int node, int way) {
            int next = next(node, way);
            return next < 0 ? -1 : 2 * Math.min(node, next) + way % 2;
        }

        int linkOf(int a, int b) {
            for (int way = 0; way < 4; way++) {
                if (next(a, way) == b) {
                    return link(a, way);
                }
            }
            throw new AssertionError("no neighbours: " + a + " " + b);
        }

        Map<Integer, int[]> links() {
            Map<Integer, int[]> all = new TreeMap<>();
            for (int node = 0; node < nodes(); node++) {
                for (int way = 0; way < 2; way++) {
                    if (next(node, way) >= 0) {
                        all.put(link(node, way), new int[] {node, next(node, way)});
                    }
                }
            }
            return all;
        }

        boolean holds(int node, int link) {
            Integer found = lessons.get(node).get(link);
            return found != null && time < found + stale;
        }

        void learn(int node, int link, int found) {
            lessons.get(node).merge(link, found, Math::max);
        }

        int apart(int a, int b) {
            return Math.abs(a % width - b % width) + Math.abs(a / width - b / width);
        }

        Traveller send(int source, int target, int limit) {
            Traveller t = new Traveller();
            t.source = source;
            t.target = target;
            t.limit = limit;
            t.sent = time;
            t.trail.add(source);
            t.visited.add(source);
            packets.add(t);
            return t;
        }

        int reason(Traveller t, int way) {
            int link = link(t.at(), way);
            if (link < 0) {
                return 1;
            }
            if (t.map.containsKey(link)) {
                return 2;
            }
            if (holds(t.at(), link)) {
                return 3;
            }
            return t.visited.contains(next(t.at(), way)) ? 4 : 0;
        }

        int choose(Traveller t) {
            int best = -1;
            for (int way = 3; way >= 0; way--) {
                if (reason(t, way) == 0 && (best < 0
                        || apart(next(t.at(), way), t.target) <= apart(next(t.at(), best), t.target))) {
                    best = way;
                }
            }
            return best;
        }

        void tick() {
            for (Traveller t : packets) {
                if (t.state == 0) {
                    moveOn(t);
                } else if (t.state < 3) {
                    if (t.trail.size() == 1) {
                        t.state += 2;
                        t.ended = time;
                    } else {
                        back(t);
                    }
                }
            }
            time++;
        }

        void moveOn(Traveller t) {
            int way = choose(t);
            if (way < 0) {
                if (t.trail.size() == 1) {
                    t.state = 4;
                    t.ended = time;
                    return;
                }
                back(t);
                t.hops++;
                if (t.state != 5 && t.hops == t.limit) {
                    t.state = 2;
                }
                return;
            }
            int link = link(t.at(), way);
            if (dead.contains(link)) {
                t.map.put(link, time);
                learn(t.at(), link, time);
                return;
            }
            int next = next(t.at(), way);
            t.trail.add(next);
            t.visited.add(next);
            t.hops++;
            if (next == t.target) {
                t.state = 1;
            } else if (t.hops == t.limit) {
                t.state = 2;
            }
        }

        void back(Traveller t) {
            int ahead = t.trail.get(t.trail.size() - 2);
            if (dead.contains(linkOf(t.at(), ahead))) {
                t.state = 5;
                t.ended = time;
                return;
            }
            t.trail.remove(t.trail.size() - 1);
            if (t.state != 0) {
                t.map.forEach((link, found) -> learn(t.at(), link, found));
            }
        }

        boolean isQuiet() {
            return packets.stream().noneMatch(t -> t.state < 3);
        }

        int[] hopsFrom(int from, Set<Integer> closed) {
            int[] hops = new int[nodes()];
            java.util.Arrays.fill(hops, -1);
            hops[from] = 0;
            for (int round = 0; round < nodes(); round++) {
                for (Map.Entry<Integer, int[]> one : links().entrySet()) {
                    if (closed.contains(one.getKey())) {
                        continue;
                    }
                    int a = one.getValue()[0];
                    int b = one.getValue()[1];
                    if (hops[a] == round && hops[b] < 0) {
                        hops[b] = round + 1;
                    } else if (hops[b] == round && hops[a] < 0) {
                        hops[a] = round + 1;
                    }
                }
            }
            return hops;
        }

        int sets(Set<Integer> closed) {
            Set<Integer> lowest = new HashSet<>();
            for (int node = 0; node < nodes(); node++) {
                int[] hops = hopsFrom(node, closed);
                int low = 0;
                while (hops[low] < 0) {
                    low++;
                }
                lowest.add(low);
            }
            return lowest.size();
        }
    }

    State now = new State();
    final StringBuilder input = new StringBuilder();
    String output = "";
    int code;
    int place = -1;
    final Deque<State> past = new ArrayDeque<>();
    final State[] saved = new State[2];

    // ---- input ----

    public int appendInput(int w0, int w1, int w2, int w3, int w4) {
        if (input.length() > 980) {
            return -1;
        }
        for (int word : new int[] {w0, w1, w2, w3, w4}) {
            input.append((char) (word >>> 24)).append((char) (word >>> 16 & 255));
            input.append((char) (word >>> 8 & 255)).append((char) (word & 255));
        }
        return input.length();
    }

    public int truncateInput(int length) {
        if (length < 0 || length > input.length()) {
            return -1;
        }
        input.setLength(length);
        return length;
    }

    static final Pattern TOKEN = Pattern.compile("[a-z]+|[0-9]+|[^ \\n]", Pattern.DOTALL);

    static final class Fault extends Exception {
        private static final long serialVersionUID = 1L;
        final int code;
        final int place;

        Fault(int code, int place) {
            this.code = code;
            this.place = place;
        }
    }

    static final class Tokens {
        final List<String> words = new ArrayList<>();
        final List<Integer> places = new ArrayList<>();
        int next;

        Tokens(String text) {
            Matcher m = TOKEN.matcher(text);
            while (m.find()) {
                words.add(m.group());
                places.add(m.start());
            }
            words.add("");
            places.add(text.length());
        }

        boolean isDone() {
            return words.get(next).isEmpty();
        }

        Fault fault(int code) {
            return new Fault(code, places.get(next));
        }

        String take(String allowed) throws Fault {
            if (!words.get(next).matches(allowed)) {
                throw fault(1);
            }
            return words.get(next++);
        }

        int number(int least, int most) throws Fault {
            int value = Integer.parseInt(take("[0-9]{1,5}"));
            if (value < least || value > most) {
                next--;
                throw fault(2);
            }
            return value;
        }

        int way() throws Fault {
            return WORDS.indexOf(take("east|north|west|south"));
        }
    }

    int deadLink(State s, Tokens tokens) throws Fault {
        int node = tokens.number(0, s.nodes() - 1);
        int link = s.link(node, tokens.way());
        if (link < 0) {
            tokens.next--;
            throw tokens.fault(3);
        }
        return link;
    }

    State network(String text) throws Fault {
        State s = new State();
        Tokens tokens = new Tokens(text);
        boolean isFirst = true;
        boolean hasStale = false;
        while (!tokens.isDone()) {
            String verb = tokens.take("grid|stale|dead|lesson");
            if (verb.equals("grid") && !isFirst || verb.equals("stale") && hasStale) {
                tokens.next--;
                throw tokens.fault(4);
            }
            if (verb.equals("grid")) {
                s.width = tokens.number(1, 6);
                s.height = tokens.number(1, 6);
            } else if (verb.equals("stale")) {
                hasStale = true;
                s.stale = tokens.number(1, 1000);
            } else if (verb.equals("dead")) {
                if (!s.dead.add(deadLink(s, tokens))) {
                    tokens.next--;
                    throw tokens.fault(4);
                }
            } else {
                int learner = tokens.number(0, s.nodes() - 1);
                s.learn(learner, deadLink(s, tokens), 0);
            }
            tokens.take(";");
            isFirst = false;
        }
        return s;
    }

    public int load() {
        String text = input.toString();
        input.setLength(0);
        code = 0;
        place = -1;
        try {
            now = network(text);
        } catch (Fault fault) {
            code = fault.code;
            place = fault.place;
            return -3;
        }
        past.clear();
        saved[0] = null;
        saved[1] = null;
        return now.nodes();
    }

    public int errorCode() {
        return code;
    }

    public int errorPosition() {
        return place;
    }

    List<Object[]> script(String text) throws Fault {
        List<Object[]> all = new ArrayList<>();
        Tokens tokens = new Tokens(text);
        while (!tokens.isDone()) {
            String verb = tokens.take("send|tick|kill|mend|forget");
            if (all.size() == 40) {
                tokens.next--;
                throw tokens.fault(5);
            }
            if (verb.equals("send")) {
                int source = tokens.number(0, 35);
                int target = tokens.number(0, 35);
                all.add(new Object[] {verb, source, target, tokens.number(1, 200)});
            } else if (verb.equals("tick")) {
                all.add(new Object[] {verb, tokens.number(1, 500)});
            } else if (verb.equals("forget")) {
                all.add(new Object[] {verb, tokens.number(0, 35)});
            } else {
                int node = tokens.number(0, 35);
                all.add(new Object[] {verb, node, tokens.way()});
            }
            tokens.take(";");
        }
        return all;
    }

    public int play() {
        String text = input.toString();
        input.setLength(0);
        code = 0;
        place = -1;
        List<Object[]> commands;
        try {
            commands = script(text);
        } catch (Fault fault) {
            code = fault.code;
            place = fault.place;
            return -3;
        }
        int done = 0;
        try {
            for (Object[] c : commands) {
                int answer = switch ((String) c[0]) {
                    case "send" -> send((int) c[1], (int) c[2], (int) c[3]);
                    case "tick" -> tick((int) c[1]);
                    case "kill" -> kill((int) c[1], (int) c[2]);
                    case "mend" -> mend((int) c[1], (int) c[2]);
                    default -> forget((int) c[1]);
                };
                if (answer < 0) {
                    break;
                }
                done++;
            }
        } catch (IndexOutOfBoundsException e) {
            return done;
        }
        return done;
    }

    // ---- what there is ----

    void needNode(int node) {
        if (node < 0 || node >= now.nodes()) {
            throw new IndexOutOfBoundsException();
        }
    }

    void needLink(int link) {
        if (!now.links().containsKey(link)) {
            throw new IndexOutOfBoundsException();
        }
    }

    Traveller needPacket(int packet) {
        if (packet < 0 || packet >= now.packets.size()) {
            throw new IndexOutOfBoundsException();
        }
        return now.packets.get(packet);
    }

    static void needIndex(int index) {
        if (index < 0) {
            throw new IndexOutOfBoundsException();
        }
    }

    static void need(int value, int least, int most) {
        if (value < least || value > most) {
            throw new IllegalArgumentException();
        }
    }

    public int count(int what) {
        int all = 0;
        int wrong = 0;
        for (int node = 0; node < now.nodes(); node++) {
            all += lessons(node);
            wrong += wrongLessons(node);
        }
        return switch (what) {
            case 0 -> now.width;
            case 1 -> now.height;
            case 2 -> now.stale;
            case 3 -> now.time;
            case 4 -> (now.width - 1) * now.height + now.width * (now.height - 1);
            case 5 -> now.dead.size();
            case 6 -> now.packets.size();
            case 7 -> (int) now.packets.stream().filter(t -> t.state < 3).count();
            case 8 -> all;
            case 9 -> wrong;
            case 10 -> now.packets.stream().mapToInt(t -> t.hops).sum();
            case 11 -> past.size();
            default -> -1;
        };
    }

    public int link(int node, int way) {
        needNode(node);
        need(way, 0, 3);
        return now.link(node, way);
    }

    public boolean isDead(int link) {
        needLink(link);
        return now.dead.contains(link);
    }

    public int end(int link, boolean isGreater) {
        needLink(link);
        return now.links().get(link)[isGreater ? 1 : 0];
    }

    public int lesson(int node, int link) {
        needNode(node);
        needLink(link);
        return now.lessons.get(node).getOrDefault(link, -1);
    }

    public int lessons(int node) {
        needNode(node);
        return (int) now.lessons.get(node).keySet().stream().filter(link -> now.holds(node, link)).count();
    }

    public int knowers(int link) {
        needLink(link);
        int sum = 0;
        for (int node = 0; node < now.nodes(); node++) {
            sum += now.holds(node, link) ? 1 : 0;
        }
        return sum;
    }

    public int wrongLessons(int node) {
        needNode(node);
        return (int) now.lessons.get(node).keySet().stream()
                .filter(link -> now.holds(node, link) && !now.dead.contains(link)).count();
    }

    public int wisest() {
        int best = -1;
        for (int node = now.nodes() - 1; node >= 0; node--) {
            if (lessons(node) > 0 && (best < 0 || lessons(node) >= lessons(best))) {
                best = node;
            }
        }
        return best;
    }

    public int nextStale() {
        for (int time = now.time + 1; time <= now.time + now.stale; time++) {
            for (Map<Integer, Integer> of : now.lessons) {
                if (of.containsValue(time - now.stale)) {
                    return time;
                }
            }
        }
        return -1;
    }

    // ---- questions of ways ----

    public int distance(int from, int to) {
        needNode(from);
        needNode(to);
        return now.apart(from, to);
    }

    public int shortest(int from, int to) {
        needNode(from);
        needNode(to);
        return now.hopsFrom(from, now.dead)[to];
    }

    public int believed(int from, int to) {
        needNode(from);
        needNode(to);
        Set<Integer> closed = new HashSet<>(now.lessons.get(from).keySet());
        closed.removeIf(link -> !now.holds(from, link));
        return now.hopsFrom(from, closed)[to];
    }

    public int ways(int from, int to, int hops) {
        needNode(from);
        needNode(to);
        need(hops, 0, 8);
        List<List<Integer>> all = List.of(List.of(from));
        for (int n = 0; n < hops; n++) {
            List<List<Integer>> longer = new ArrayList<>();
            for (List<Integer> one : all) {
                int last = one.get(one.size() - 1);
                for (int way = 0; way < 4; way++) {
                    int next = now.next(last, way);
                    if (next >= 0 && !one.contains(next) && !now.dead.contains(now.link(last, way))) {
                        List<Integer> more = new ArrayList<>(one);
                        more.add(next);
                        longer.add(more);
                    }
                }
            }
            all = longer;
        }
        return (int) all.stream().filter(one -> one.get(one.size() - 1) == to).count();
    }

    public int parts() {
        return now.sets(now.dead);
    }

    public int bridge(int index) {
        needIndex(index);
        List<Integer> bridges = new ArrayList<>();
        for (int link : now.links().keySet()) {
            if (!now.dead.contains(link)) {
                Set<Integer> closed = new HashSet<>(now.dead);
                closed.add(link);
                if (now.sets(closed) > now.sets(now.dead)) {
                    bridges.add(link);
                }
            }
        }
        return index < bridges.size() ? bridges.get(index) : -1;
    }

    public int cut(int from, int to) {
        needNode(from);
        needNode(to);
        if (from == to) {
            return -4;
        }
        int most = 0;
        while (!canCut(from, to, new HashSet<>(now.dead), most)) {
            most++;
        }
        return most;
    }

    /** Of each way one link must be cut: tries those of a shortest one. */
    private boolean canCut(int from, int to, Set<Integer> closed, int most) {
        int[] hops = now.hopsFrom(from, closed);
        if (hops[to] < 0 || most == 0) {
            return hops[to] < 0;
        }
        for (int node = to; node != from;) {
            int before = -1;
            for (int way = 0; way < 4 && before < 0; way++) {
                int next = now.next(node, way);
                if (next >= 0 && hops[next] == hops[node] - 1 && !closed.contains(now.link(node, way))) {
                    before = next;
                }
            }
            int link = now.linkOf(node, before);
            closed.add(link);
            boolean isCut = canCut(from, to, closed, most - 1);
            closed.remove(link);
            if (isCut) {
                return true;
            }
            node = before;
        }
        return false;
    }

    public int farthest(int node) {
        needNode(node);
        int[] hops = now.hopsFrom(node, now.dead);
        int best = 0;
        for (int other = 0; other < hops.length; other++) {
            if (hops[other] > hops[best]) {
                best = other;
            }
        }
        return best;
    }

    // ---- what is done ----

    void remember() {
        past.addLast(now.copy());
        if (past.size() > 12) {
            past.removeFirst();
        }
    }

    public int send(int source, int target, int limit) {
        needNode(source);
        needNode(target);
        need(limit, 1, 200);
        if (source == target) {
            return -4;
        }
        if (now.packets.size() == 24) {
            return -2;
        }
        remember();
        now.send(source, target, limit);
        return now.packets.size() - 1;
    }

    public int tick(int ticks) {
        need(ticks, 1, 500);
        if (now.time > 30000 - ticks) {
            return -2;
        }
        remember();
        for (int n = 0; n < ticks; n++) {
            now.tick();
        }
        return now.time;
    }

    public int kill(int node, int way) {
        needNode(node);
        need(way, 0, 3);
        int link = now.link(node, way);
        if (link < 0 || now.dead.contains(link)) {
            return -4;
        }
        remember();
        now.dead.add(link);
        return now.dead.size();
    }

    public int mend(int node, int way) {
        needNode(node);
        need(way, 0, 3);
        int link = now.link(node, way);
        if (!now.dead.contains(link)) {
            return -4;
        }
        remember();
        now.dead.remove(link);
        return now.dead.size();
    }

    public int forget(int node) {
        needNode(node);
        remember();
        int held = lessons(node);
        now.lessons.get(node).clear();
        return held;
    }

    // ---- packets ----

    public int packet(int packet, int what) {
        Traveller t = needPacket(packet);
        int[] all = {t.source, t.target, t.limit, t.state, t.at(), t.hops, t.trail.size(), t.visited.size(),
            t.map.size(), t.sent, t.ended};
        return what >= 0 && what < all.length ? all[what] : -1;
    }

    public int trail(int packet, int index) {
        Traveller t = needPacket(packet);
        needIndex(index);
        return index < t.trail.size() ? t.trail.get(index) : -1;
    }

    public boolean isVisited(int packet, int node) {
        Traveller t = needPacket(packet);
        needNode(node);
        return t.visited.contains(node);
    }

    public int found(int packet, int link) {
        Traveller t = needPacket(packet);
        needLink(link);
        return t.map.getOrDefault(link, -1);
    }

    public int deadHome(int packet) {
        Traveller t = needPacket(packet);
        int first = -1;
        for (int n = 1; n < t.trail.size(); n++) {
            int link = now.linkOf(t.trail.get(n - 1), t.trail.get(n));
            first = now.dead.contains(link) ? link : first;
        }
        return first;
    }

    public int healed(int packet) {
        Traveller t = needPacket(packet);
        Set<Integer> alive = new HashSet<>(t.map.keySet());
        alive.removeAll(now.dead);
        return alive.size();
    }

    public int choice(int packet) {
        Traveller t = needPacket(packet);
        return t.state == 0 ? now.choose(t) : -1;
    }

    public int reason(int packet, int way) {
        Traveller t = needPacket(packet);
        need(way, 0, 3);
        if (t.state != 0) {
            return -1;
        }
        int reason = now.reason(t, way);
        return reason == 0 && now.choose(t) != way ? 5 : reason;
    }

    public int cause(int packet, int way) {
        Traveller t = needPacket(packet);
        int reason = reason(packet, way);
        int link = now.link(t.at(), way);
        return switch (reason) {
            case 2 -> t.map.get(link);
            case 3 -> now.lessons.get(t.at()).get(link);
            case 5 -> now.choose(t);
            default -> -1;
        };
    }

    private int set(java.util.function.Predicate<Traveller> isIn) {
        int set = 0;
        for (int k = 0; k < now.packets.size(); k++) {
            set += isIn.test(now.packets.get(k)) ? 1 << k : 0;
        }
        return set;
    }

    public int packetsIn(int state) {
        need(state, 0, 5);
        return set(t -> t.state == state);
    }

    public int packetsAt(int node) {
        needNode(node);
        return set(t -> t.state < 3 && t.at() == node);
    }

    public int packetsTo(int node) {
        needNode(node);
        return set(t -> t.target == node);
    }

    public int busiest() {
        int best = -1;
        int most = 0;
        for (int node = 0; node < now.nodes(); node++) {
            int here = Integer.bitCount(packetsAt(node));
            if (here > most) {
                most = here;
                best = node;
            }
        }
        return best;
    }

    public int unvisited(int index) {
        needIndex(index);
        List<Integer> left = new ArrayList<>();
        for (int node = 0; node < now.nodes(); node++) {
            left.add(node);
        }
        now.packets.forEach(t -> left.removeAll(t.visited));
        return index < left.size() ? left.get(index) : -1;
    }

    // ---- forecasts ----

    public int stateIn(int packet, int ticks) {
        needPacket(packet);
        need(ticks, 1, 500);
        State copy = now.copy();
        for (int n = 0; n < ticks; n++) {
            copy.tick();
        }
        return copy.packets.get(packet).state;
    }

    public int quietIn(int ticks) {
        need(ticks, 1, 500);
        State copy = now.copy();
        for (int n = 0; n <= ticks; n++) {
            if (copy.isQuiet()) {
                return n;
            }
            copy.tick();
        }
        return -1;
    }

    private int lastState(int source, int target, int limit) {
        State copy = now.copy();
        Traveller t = copy.send(source, target, limit);
        for (int n = 0; n < 500 && t.state < 3; n++) {
            copy.tick();
        }
        return t.state < 3 ? -1 : t.state;
    }

    public int fate(int source, int target, int limit) {
        needNode(source);
        needNode(target);
        need(limit, 1, 200);
        return source == target ? -4 : lastState(source, target, limit);
    }

    public int leastLimit(int from, int to) {
        needNode(from);
        needNode(to);
        if (from == to) {
            return -4;
        }
        for (int limit = 1; limit <= 200; limit++) {
            if (lastState(from, to, limit) == 3) {
                return limit;
            }
        }
        return -1;
    }

    public double meanHops() {
        List<Traveller> told = now.packets.stream().filter(t -> t.state == 3).toList();
        if (told.isEmpty()) {
            throw new ArithmeticException();
        }
        return (double) told.stream().mapToInt(t -> t.hops).sum() / (double) told.size();
    }

    public int mostFound() {
        int best = -1;
        long most = 0;
        for (int link : now.links().keySet()) {
            long in = now.packets.stream().filter(t -> t.map.containsKey(link)).count();
            if (in > most) {
                most = in;
                best = link;
            }
        }
        return best;
    }

    public int write(int packet) {
        Traveller t = needPacket(packet);
        StringBuilder text = new StringBuilder().append(t.source);
        for (int n = 1; n < t.trail.size(); n++) {
            for (int way = 0; way < 4; way++) {
                if (now.next(t.trail.get(n - 1), way) == t.trail.get(n)) {
                    text.append(WORDS.get(way).charAt(0));
                }
            }
        }
        output = text.toString();
        return output.length();
    }

    public int outputByte(int index) {
        return index >= 0 && index < output.length() ? output.charAt(index) : -1;
    }

    public int undo() {
        if (past.isEmpty()) {
            return -1;
        }
        now = past.removeLast();
        return past.size();
    }

    public int digest() {
        List<Integer> parts = new ArrayList<>(List.of(now.time));
        now.links().keySet().forEach(link -> parts.add(now.dead.contains(link) ? 1 : 0));
        now.packets.forEach(t -> parts.addAll(List.of(t.at(), t.state, t.hops)));
        parts.add(count(8));
        int sum = 1;
        for (int part : parts) {
            sum = 31 * sum + part;
        }
        return sum;
    }

    public boolean saveSnapshot(int place) {
        if (place < 0 || place > 1) {
            return false;
        }
        saved[place] = now.copy();
        return true;
    }

    public boolean restoreSnapshot(int place) {
        if (place < 0 || place > 1 || saved[place] == null) {
            return false;
        }
        now = saved[place].copy();
        past.clear();
        return true;
    }
}
