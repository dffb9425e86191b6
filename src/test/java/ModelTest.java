import java.lang.reflect.InvocationTargetException;
import java.lang.reflect.Method;
import java.lang.reflect.Modifier;
import java.util.ArrayList;
import java.util.Arrays;
import java.util.Comparator;
import java.util.List;
import java.util.Random;

/** Runs of calls by chance (always the same ones): the class and the model answer alike, and only what may be thrown is. */
public final class ModelTest {
    private static final int RUNS = 300;
    private static final int CALLS = 480;
    private static final List<String> DOING = List.of("send", "tick", "kill", "mend", "forget", "play", "undo");

    private final Random chance;
    private final ChipNetwork net = new ChipNetwork();
    private final Model model = new Model();
    private final List<String> log = new ArrayList<>();
    private final Method[] face;
    private final int seed;

    private ModelTest(int seed, Method[] face) {
        this.seed = seed;
        this.face = face;
        chance = new Random(seed);
    }

    public static void main(String[] args) throws Exception {
        int runs = args.length > 0 ? Integer.parseInt(args[0]) : RUNS;
        List<Method> face = new ArrayList<>();
        for (Method method : ChipNetwork.class.getDeclaredMethods()) {
            if (Modifier.isPublic(method.getModifiers())) {
                face.add(method);
            }
        }
        face.sort(Comparator.comparing(Method::getName));
        for (int seed = 0; seed < runs; seed++) {
            if (!new ModelTest(seed, face.toArray(new Method[0])).run()) {
                System.exit(1);
            }
        }
        System.out.println("ModelTest: " + runs + " runs, all as the model");
    }

    private boolean run() throws Exception {
        boolean isWild = chance.nextInt(4) == 0;
        enter(gridText());
        if (!compare("load")) {
            return false;
        }
        while (log.size() < CALLS) {
            int dice = chance.nextInt(100);
            boolean isAlike;
            if (dice < 2) {
                enter(spoiled(gridText()));
                isAlike = chance.nextInt(8) == 0 ? compare("load") : compare("play");
            } else if (dice < 7) {
                enter(chance.nextInt(3) == 0 ? spoiled(scriptText()) : scriptText());
                isAlike = compare(chance.nextInt(30) == 0 ? "load" : "play");
            } else if (dice < 45) {
                Method method = method(DOING.get(chance.nextInt(DOING.size())));
                isAlike = chance.nextInt(3) == 0 && method.getName().equals("undo")
                        || compare(method.getName(), arguments(method, isWild));
            } else {
                Method method = face[chance.nextInt(face.length)];
                boolean isRare = List.of("load", "restoreSnapshot", "truncateInput").contains(method.getName());
                isAlike = isRare && chance.nextInt(4) != 0
                        || compare(method.getName(), arguments(method, isWild));
            }
            if (!isAlike || !compare("digest")) {
                return false;
            }
        }
        return true;
    }

    private Method method(String name) {
        return Arrays.stream(face).filter(m -> m.getName().equals(name)).findFirst().orElseThrow();
    }

    private boolean compare(String name, Object... arguments) throws Exception {
        Class<?>[] types = method(name).getParameterTypes();
        String call = name + Arrays.toString(arguments);
        Object due = answer(Model.class.getMethod(name, types), model, arguments);
        Object got = answer(method(name), net, arguments);
        log.add(call + " " + got);
        if (due.equals(got)) {
            return true;
        }
        System.out.println("ModelTest: run " + seed + ", call " + log.size() + ": " + call
                + " answers " + got + ", the model " + due);
        log.forEach(System.out::println);
        return false;
    }

    private static Object answer(Method method, Object on, Object[] arguments) throws Exception {
        try {
            return method.invoke(on, arguments);
        } catch (InvocationTargetException e) {
            return "throws " + e.getCause().getClass().getName();
        }
    }

    private int number(int least, int most) {
        return least + chance.nextInt(most - least + 1);
    }

    private Object[] arguments(Method method, boolean isWild) {
        Class<?>[] types = method.getParameterTypes();
        Object[] all = new Object[types.length];
        for (int n = 0; n < all.length; n++) {
            if (types[n] == boolean.class) {
                all[n] = chance.nextBoolean();
            } else if (isWild && chance.nextInt(12) == 0) {
                all[n] = List.of(Integer.MIN_VALUE, -1, Integer.MAX_VALUE, chance.nextInt(), 4, 8, 9, 35, 36, 71, 72,
                        200, 201, 500, 501, 0).get(chance.nextInt(16));
            } else {
                all[n] = argument(method.getName(), n);
            }
        }
        return all;
    }

    private int argument(String name, int n) {
        int nodes = model.now.nodes();
        switch (name + n) {
            case "count0":
                return number(0, 12);
            case "send2": case "fate2":
                return chance.nextInt(3) == 0 ? number(1, 200) : number(1, 25);
            case "ways2":
                return number(0, 8);
            case "isDead0": case "end0": case "lesson1": case "knowers0": case "found1":
                return number(0, 2 * nodes - 1);
            case "tick0":
                return chance.nextInt(12) == 0 ? number(1, 500) : number(1, 6);
            case "stateIn1": case "quietIn0":
                return chance.nextInt(12) == 0 ? number(1, 500) : number(1, 40);
            case "packet1":
                return number(0, 11);
            case "packetsIn0":
                return number(0, 5);
            case "link1": case "kill1": case "mend1": case "reason1": case "cause1":
                return number(0, 3);
            case "bridge0": case "trail1": case "unvisited0": case "outputByte0": case "truncateInput0":
                return number(0, 12);
            case "saveSnapshot0": case "restoreSnapshot0":
                return number(0, 1);
            case "packet0": case "trail0": case "isVisited0": case "found0": case "deadHome0": case "healed0":
            case "choice0": case "reason0": case "cause0": case "stateIn0": case "write0":
                return number(0, model.now.packets.isEmpty() ? 0 : model.now.packets.size() - 1);
            default:
                return number(0, nodes - 1);
        }
    }

    // ---- texts ----

    private void enter(String text) throws Exception {
        if (!model.input.isEmpty()) {
            compare("truncateInput", 0);
        }
        for (int start = 0; start < text.length(); start += 20) {
            Object[] words = new Object[5];
            for (int w = 0; w < 5; w++) {
                int word = 0;
                for (int n = 0; n < 4; n++) {
                    int at = start + 4 * w + n;
                    word = word << 8 | (at < text.length() ? text.charAt(at) : 0);
                }
                words[w] = word;
            }
            compare("appendInput", words);
        }
        compare("truncateInput", text.length());
    }

    private String gridText() {
        StringBuilder text = new StringBuilder();
        int width = 1;
        int height = 1;
        if (chance.nextInt(20) != 0) {
            width = number(1, 6);
            height = number(1, 6);
            text.append("grid ").append(width).append(' ').append(height).append(";\n");
        }
        if (chance.nextInt(3) != 0) {
            text.append("stale ").append(chance.nextInt(5) == 0 ? number(1, 1000) : number(1, 30)).append(" ; ");
        }
        int top = width * height - 1;
        String[] ways = {"east", "north", "west", "south"};
        Model.State shape = new Model.State();
        shape.width = width;
        shape.height = height;
        for (int n = chance.nextInt(14); n > 0; n--) {
            int node = number(0, top);
            int way = number(0, 3);
            int link = shape.link(node, way);
            boolean isLesson = chance.nextInt(4) == 0;
            if (link < 0 || !isLesson && !shape.dead.add(link)) {
                continue;
            }
            text.append(isLesson ? "lesson " + number(0, top) : "dead").append(' ').append(node).append(' ');
            text.append(ways[way]).append(";");
        }
        return text.toString();
    }

    private String scriptText() {
        StringBuilder text = new StringBuilder();
        int top = Math.min(35, model.now.nodes() - 1 + chance.nextInt(10) / 9);
        String[] ways = {"east", "north", "west", "south"};
        int commands = chance.nextInt(12) == 0 ? number(38, 42) : number(0, 6);
        for (int n = 0; n < commands; n++) {
            switch (chance.nextInt(6)) {
                case 0: case 1:
                    text.append("send ").append(number(0, top)).append(' ').append(number(0, top)).append(' ')
                            .append(number(1, 40)).append(";");
                    break;
                case 2:
                    text.append("tick").append(number(1, 9)).append(" ; ");
                    break;
                case 3:
                    text.append("kill ").append(number(0, top)).append(' ').append(ways[number(0, 3)]).append("; ");
                    break;
                case 4:
                    text.append("mend ").append(number(0, top)).append(' ').append(ways[number(0, 3)]).append(";\n");
                    break;
                default:
                    text.append("forget ").append(number(0, top)).append(";");
            }
        }
        return text.length() > 1000 ? text.substring(0, 1000) : text.toString();
    }

    private String spoiled(String text) {
        StringBuilder all = new StringBuilder(text);
        String[] pieces = {";", " ", "7", "grid 2 2;", "stale 9;", "000005", "00005", "x", "eastwards", "eastwardss",
            "north", "dead 0 east;", "\n", "A", "-", "36", "501", "1001", "0", "lesson", "forget 1;", "tick 1;", "\u00e9"};
        for (int n = number(1, 2); n > 0; n--) {
            int at = all.length() == 0 ? 0 : chance.nextInt(all.length());
            switch (chance.nextInt(3)) {
                case 0:
                    all.insert(at, pieces[chance.nextInt(pieces.length)]);
                    break;
                case 1:
                    all.delete(at, Math.min(all.length(), at + number(1, 4)));
                    break;
                default:
                    all.setLength(at);
            }
        }
        return all.length() > 1000 ? all.substring(0, 1000) : all.toString();
    }
}
