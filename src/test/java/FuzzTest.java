import java.lang.reflect.InvocationTargetException;
import java.lang.reflect.Method;
import java.lang.reflect.Modifier;
import java.util.ArrayList;
import java.util.Comparator;
import java.util.List;
import java.util.Random;
import java.util.Set;

/** Any calls with any numbers: none throws, a refused one changes nothing, one that only asks changes nothing. */
public final class FuzzTest {
    private static final Set<String> NO_STATUS = Set.of("status", "top", "bottom", "feed", "fault");
    private static final Set<String> DOES = Set.of("tray", "write", "pour", "feed", "world", "voyages", "buy", "sell", "dump", "sail",
        "day", "pass", "rule", "war", "trade", "pay", "copyLog", "live", "mark", "undo");
    private static final int[] EDGES = {-1, 0, 1, 2, 3, 4, 5, 6, 7, 8, 9, 10, 20, 21, 59, 60, 61, 99, 100, 255, 300, 301, 899, 900, 901,
        9998, 9999, 10000, -9999, -10000, Integer.MAX_VALUE, Integer.MIN_VALUE, Integer.MAX_VALUE - 1};

    public static void main(String[] args) throws IllegalAccessException {
        List<Method> face = new ArrayList<>();
        for (Method m : CargoFlag.class.getDeclaredMethods()) {
            if (Modifier.isPublic(m.getModifiers())) {
                face.add(m);
            }
        }
        face.sort(Comparator.comparing(Method::getName));
        for (int seed = 0; seed < 120; seed++) {
            run(seed, face);
        }
        Sea.end("FuzzTest");
    }

    private static void run(int seed, List<Method> face) throws IllegalAccessException {
        Random random = new Random(seed);
        RandomTexts texts = new RandomTexts(seed);
        Sea s = new Sea("fuzz " + seed);
        for (int i = 0; i < 512; i++) {
            if (i % 100 == 20) {
                s.x.world(0);
                s.world(texts.world(6, 8, 6, 4));
            }
            if (i % 50 == 30) {
                s.x.voyages(0);
                String plan = texts.voyages(8);
                if (plan.length() <= 300) {
                    s.voyages(plan);
                }
            }
            call(s, face.get(random.nextInt(face.size())), random);
        }
    }

    private static String everything(Sea s) {
        StringBuilder t = new StringBuilder(s.all());
        for (int tray = 0; tray < 4; tray++) {
            for (int p = 0; p <= 60; p++) {
                t.append(s.x.read(tray, p)).append(s.x.status()).append(' ');
            }
        }
        t.append(s.x.fault(0)).append(' ').append(s.x.fault(1));
        for (int w = 0; w < 5; w++) {
            t.append(' ').append(s.x.lived(w));
        }
        return t.toString();
    }

    private static void call(Sea s, Method m, Random random) throws IllegalAccessException {
        Object[] args = new Object[m.getParameterCount()];
        boolean wild = random.nextInt(4) == 0;
        for (int i = 0; i < args.length; i++) {
            Class<?> type = m.getParameterTypes()[i];
            int v = wild ? EDGES[random.nextInt(EDGES.length)] : random.nextInt(5);
            if (type == boolean.class) {
                args[i] = random.nextBoolean();
            } else if (type == long.class) {
                args[i] = (long) (v - 1);
            } else {
                args[i] = v;
            }
        }
        String before = everything(s);
        long top = s.x.top();
        long bottom = s.x.bottom();
        s.x.told(0);
        Object got;
        try {
            got = m.invoke(s.x, args);
        } catch (InvocationTargetException e) {
            s.due(m.getName() + java.util.Arrays.toString(args) + " threw " + e.getCause(), 1, 0);
            return;
        }
        String name = m.getName();
        int status = s.x.status();
        String what = name + java.util.Arrays.toString(args);
        s.due(what + " status", status >= 0 && status <= 9, true);
        s.due("bottom", s.x.bottom() > 0, true);
        if (status != 0) {
            boolean none = got instanceof Boolean ? !((Boolean) got) : ((Number) got).longValue() == -1;
            s.due(what + " gives none by " + status, none, true);
        }
        if (NO_STATUS.contains(name)) {
            s.due(what + " has no status", status, 0);
        }
        if (!name.equals("share") && !name.equals("mean") || status != 0) {
            s.due(what + " tells no fraction", s.x.top() == top && s.x.bottom() == bottom, true);
        }
        if ((status != 0 && status != 9) || !DOES.contains(name)) {
            s.same(what + " changes nothing", everything(s), before);
        }
    }
}
