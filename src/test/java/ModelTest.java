import java.lang.reflect.InvocationTargetException;
import java.lang.reflect.Method;
import java.lang.reflect.Modifier;
import java.util.ArrayList;
import java.util.Arrays;
import java.util.List;
import java.util.Random;
import java.util.TreeMap;

/** Runs of at most 512 calls by chance, on a new object each: every answer, STATUS and FRACTION is that of Model. */
public final class ModelTest {
    private static final int MOST_CALLS = 512;
    private static final int[] EDGES = {-1, 0, 1, 2, 3, 4, 5, 6, 7, 8, 9, 10, 19, 20, 21, 59, 60, 61, 98, 99, 100, 255, 300, 301, 9980, 9998,
        9999, 10000, -9999, -10000, Integer.MAX_VALUE, Integer.MIN_VALUE, Integer.MIN_VALUE + 1};
    private static final List<String> DOING = List.of("buy", "buy", "buy", "sell", "dump", "sail", "sail", "sail", "day", "day", "day", "pass",
        "rule", "war", "trade", "trade", "pay", "mark", "mark", "undo", "live", "tray", "write", "copyLog", "log", "sure", "pour");
    private static final List<String> ASKING = List.of("told", "captains", "ruled", "ruledBy", "share", "deeds", "lawful", "board", "boarders",
        "greatest", "flagIn", "tonsIn", "turns", "turns", "flags", "flags", "wages", "wages", "stowaway", "stowawayGood", "guard", "guard",
        "passFor", "passGood", "peace", "peaceCost", "voyage", "voyageAt", "soonest", "next", "best");
    private static final TreeMap<String, Method> FACE = new TreeMap<>();
    private static final List<String> NAMES = new ArrayList<>();
    private static final TreeMap<String, Integer> ASKED = new TreeMap<>();

    private final Random random;
    private final Sea sea;
    private final Model model = new Model();
    private final StringBuilder told = new StringBuilder();
    private ModelWorlds texts;
    private int calls = 0;
    private boolean same = true;

    private ModelTest(long seed) {
        random = new Random(seed);
        sea = new Sea("model " + seed);
        texts = new ModelWorlds(random);
    }

    public static void main(String[] args) throws IllegalAccessException {
        for (Method m : CargoFlag.class.getDeclaredMethods()) {
            if (Modifier.isPublic(m.getModifiers())) {
                FACE.put(m.getName(), m);
            }
        }
        NAMES.addAll(FACE.keySet());
        int runs = args.length > 0 ? Integer.parseInt(args[0]) : 1000;
        int first = args.length > 1 ? Integer.parseInt(args[1]) : 0;
        for (int seed = first; seed < first + runs; seed++) {
            new ModelTest(seed).run();
        }
        allWereAsked();
        Sea.end("ModelTest");
    }

    /** Each call was answered, and refused by each STATUS that it has, in some run. */
    private static void allWereAsked() {
        Sea s = new Sea("asked");
        for (String name : NAMES) {
            s.due(name + " was called", ASKED.containsKey(name + " 0") || ASKED.containsKey(name), true);
        }
        for (Refused r : Refused.ALL) {
            s.due(r.call + " was refused by " + r.status, ASKED.containsKey(r.call + " " + r.status), true);
        }
        if (System.getProperty("asked") != null) {
            System.out.println(ASKED);
        }
    }

    private void run() throws IllegalAccessException {
        for (int tray = random.nextInt(3); tray < 4; tray++) {
            compare("tray", tray, random.nextInt(4), random.nextInt(25));
        }
        while (same && calls + 60 < MOST_CALLS) {
            int what = random.nextInt(100);
            // Without ships, or with empty ones, most calls would only be refused for the rest of the run.
            boolean bare = model.globe().hulls.isEmpty();
            boolean empty = model.globe().hulls.stream().allMatch(h -> h.load.isEmpty());
            if (what < 2 || what < 5 && empty || what < 70 && bare) {
                text("world");
                // Ahead of any day: much has leaked away later on.
                ask(model.globe().hulls.isEmpty() ? 0 : random.nextInt(24));
            } else if (what < 8 || what < 30 && model.globe().voyages == null) {
                text("voyages");
            } else {
                call(what < 55 ? DOING.get(random.nextInt(DOING.size())) : NAMES.get(random.nextInt(NAMES.size())));
            }
        }
    }

    private void ask(int many) throws IllegalAccessException {
        for (int i = 0; i < many && calls + 60 < MOST_CALLS; i++) {
            call(ASKING.get(random.nextInt(ASKING.size())));
        }
    }

    private void text(String kind) throws IllegalAccessException {
        boolean world = kind.equals("world");
        String text;
        if (world) {
            ModelWorlds fresh = new ModelWorlds(random);
            text = fresh.world();
            texts = fresh;
        } else {
            text = texts.voyages();
        }
        if (random.nextInt(5) == 0) {
            text = texts.spoilt(text);
        }
        if (model.tapeLength() > 0) {
            // Whatever is on the tape would stand ahead of this text.
            compare(kind, Math.min(300, model.tapeLength()));
        }
        for (int i = 0; i < text.length() && calls + 12 < MOST_CALLS; i += 20) {
            compare("feed", four(text, i), four(text, i + 4), four(text, i + 8), four(text, i + 12), four(text, i + 16));
        }
        compare(kind, text.length());
        compare("fault", 0);
        compare("fault", 1);
    }

    private static int four(String text, int at) {
        int v = 0;
        for (int i = at; i < at + 4; i++) {
            v = v << 8 | (i < text.length() ? text.charAt(i) & 255 : 32);
        }
        return v;
    }

    private void call(String name) throws IllegalAccessException {
        Method m = FACE.get(name);
        long[] args = new long[m.getParameterCount()];
        for (int i = 0; i < args.length; i++) {
            boolean wild = random.nextInt(25) == 0;
            args[i] = wild ? EDGES[random.nextInt(EDGES.length)] : ModelWorlds.likely(name, i, random, model);
            if (m.getParameterTypes()[i] == boolean.class) {
                args[i] &= 1;
            }
        }
        compare(name, args);
        if (name.equals("share") || name.equals("mean")) {
            compare("top");
            compare("bottom");
        }
        if (name.equals("live")) {
            compare("lived", random.nextInt(5));
            compare("lived", 4);
        }
    }

    private void compare(String name, long... args) throws IllegalAccessException {
        if (!same) {
            return;
        }
        long want = model.call(name, args);
        long got = answer(name, args);
        calls++;
        String row = name + Arrays.toString(args);
        told.append(row).append(" = ").append(want).append("; ");
        check(row, got, want);
        if (!List.of("status", "top", "bottom", "feed", "fault").contains(name)) {
            check("status of " + row, sea.x.status(), model.status);
            calls++;
            ASKED.merge(name + " " + model.status, 1, Integer::sum);
        } else {
            ASKED.merge(name, 1, Integer::sum);
        }
    }

    private void check(String row, long got, long want) {
        sea.due(row, got, want);
        if (got != want) {
            // What comes behind the first unlike answer tells nothing more.
            same = false;
            System.out.println("  behind: " + told);
        }
    }

    private long answer(String name, long[] args) throws IllegalAccessException {
        Method m = FACE.get(name);
        Object[] given = new Object[args.length];
        for (int i = 0; i < args.length; i++) {
            Class<?> type = m.getParameterTypes()[i];
            if (type == boolean.class) {
                given[i] = args[i] != 0;
            } else if (type == long.class) {
                given[i] = args[i];
            } else {
                given[i] = (int) args[i];
            }
        }
        try {
            Object got = m.invoke(sea.x, given);
            return got instanceof Boolean ? ((Boolean) got ? 1 : 0) : ((Number) got).longValue();
        } catch (InvocationTargetException e) {
            sea.due(name + Arrays.toString(args) + " threw " + e.getCause(), 1, 0);
            return Long.MIN_VALUE;
        }
    }
}
