import java.io.File;
import java.io.IOException;
import java.lang.reflect.Constructor;
import java.lang.reflect.Field;
import java.lang.reflect.Method;
import java.lang.reflect.Modifier;
import java.net.URISyntaxException;
import java.nio.file.Files;
import java.nio.file.Path;
import java.util.ArrayList;
import java.util.List;
import java.util.Set;
import java.util.TreeSet;
import java.util.regex.Matcher;
import java.util.regex.Pattern;

/** The public face, and those rules of LANGUAGE.md that a program can look at. */
public final class FaceTest {
    private static final String[] FACE = {
        "int status()", "long top()", "long bottom()", "boolean tray(int,int,int)", "boolean write(int,int,long)",
        "long read(int,int)", "boolean pour(int,int,int,int,int)", "int feed(int,int,int,int,int)", "int world(int)",
        "int voyages(int)", "int fault(int)", "int told(int)", "int nation(int,int)", "int good(int,int)", "int portOf(int)",
        "int price(int,int)", "int way(int,int)", "int ship(int,int)", "int aboard(int,int)", "int weight(int,int)",
        "int weightBy(int,int,int)", "int captains(int)", "int ruled(int)", "int ruledBy(int,int)", "boolean share(int,int)",
        "int lawful(int,int)", "int deeds(int)", "int board(int,int)", "int boarders(int)", "int greatest(int)",
        "int buy(int,int,int)", "int sell(int,int,int)", "int dump(int,int,int)", "int sail(int,int)", "int day(int)",
        "boolean pass(int,int,int,int)", "boolean rule(int)", "boolean war(int,int,boolean)", "boolean trade(int,int,int)",
        "int pay(int,int)", "int flagIn(int,int)", "int tonsIn(int,int)", "int turns(int)", "int flags(int,int)",
        "int wages(int,int)", "int stowaway(int)", "int stowawayGood(int)", "int guard(int,int)", "int passFor(int,int)",
        "int passGood(int,int)", "int peace(int)", "int peaceCost(int)", "int voyage(int,int)", "int voyageAt(int,int,int)",
        "int soonest(int,int)", "int next(int,int)", "int reach(int)", "int best(int,int)", "int log(int,int,int)",
        "int sure(int,int,int)", "int copyLog(int,int,int)", "int live(int)", "int lived(int)", "boolean mean(int,int)",
        "int mark()", "int undo()",
    };

    private static final Sea SEA = new Sea("face");

    public static void main(String[] args) throws IOException, URISyntaxException {
        face();
        classesInside();
        compiled();
        source(Files.readString(Path.of("src/main/java/CargoFlag.java")));
        Sea.end("FaceTest");
    }

    private static String signature(Method m) {
        StringBuilder s = new StringBuilder();
        s.append(m.getReturnType().getName()).append(' ').append(m.getName()).append('(');
        for (int i = 0; i < m.getParameterCount(); i++) {
            s.append(i == 0 ? "" : ",").append(m.getParameterTypes()[i].getName());
        }
        return s.append(')').toString();
    }

    private static Set<String> publicNames() {
        Set<String> names = new TreeSet<>();
        for (String f : FACE) {
            names.add(f.substring(f.indexOf(' ') + 1, f.indexOf('(')));
        }
        return names;
    }

    private static void face() {
        Class<?> c = CargoFlag.class;
        SEA.due("public final", Modifier.isPublic(c.getModifiers()) && Modifier.isFinal(c.getModifiers()), true);
        Set<String> due = new TreeSet<>(List.of(FACE));
        Set<String> got = new TreeSet<>();
        for (Method m : c.getDeclaredMethods()) {
            if (Modifier.isPublic(m.getModifiers())) {
                got.add(signature(m));
                SEA.due(m + " is no static one", Modifier.isStatic(m.getModifiers()), false);
            } else {
                SEA.due(m + " is private", Modifier.isPrivate(m.getModifiers()) || m.isSynthetic(), true);
                SEA.due(m + " has a name of its own", publicNames().contains(m.getName()), false);
            }
        }
        SEA.due("methods " + got, got.equals(due), true);
        for (Constructor<?> k : c.getDeclaredConstructors()) {
            SEA.due("the constructor", Modifier.isPublic(k.getModifiers()) && k.getParameterCount() == 0, true);
        }
        for (Field f : c.getDeclaredFields()) {
            SEA.due(f + " is private", Modifier.isPrivate(f.getModifiers()) || f.getName().equals("NONE"), true);
        }
        SEA.due("NONE", CargoFlag.NONE, -1);
    }

    private static void classesInside() {
        List<Class<?>> all = new ArrayList<>(List.of(CargoFlag.class.getDeclaredClasses()));
        all.add(CargoFlag.class);
        SEA.due("some twelve classes", all.size() <= 12, true);
        for (Class<?> c : all) {
            int fields = 0;
            for (Field f : c.getDeclaredFields()) {
                boolean fixed = Modifier.isStatic(f.getModifiers());
                fields += fixed ? 0 : 1;
                SEA.due(f + ": no static state", !fixed || Modifier.isFinal(f.getModifiers()), true);
            }
            SEA.due(c + ": some twenty fields", fields <= 20, true);
            SEA.due(c + " is static", c == CargoFlag.class || Modifier.isStatic(c.getModifiers()), true);
            for (Method m : c.getDeclaredMethods()) {
                SEA.due(m + ": seven parameters", m.getParameterCount() <= 7, true);
                SEA.due(m + " has a name of its own", c != CargoFlag.class && publicNames().contains(m.getName()), false);
            }
        }
    }

    /** No call makes an object, none goes deeper than eight, one method alone calls itself. */
    private static void compiled() throws URISyntaxException {
        Bytecode code = new Bytecode(new File(CargoFlag.class.getProtectionDomain().getCodeSource().getLocation().toURI()));
        if (!code.isThere()) {
            System.out.println("FaceTest: this Java has no javap, calls are not looked at");
            return;
        }
        for (String m : code.makers) {
            SEA.due(m + " makes an object", m.endsWith(".<init>"), true);
        }
        for (String m : code.calls.keySet()) {
            int deep = code.depth(m, Set.of());
            SEA.due(m + " goes " + deep + " deep", deep <= 8, true);
        }
        SEA.same("recursion", code.recursive().toString(), "[CargoFlag$Search.mostCoins]");
        SEA.same("library", code.library().toString(), "[java/lang/Integer.bitCount, java/lang/Math.max, java/lang/Math.min, "
            + "java/lang/Object.<init>, java/lang/String.charAt, java/lang/String.length, java/lang/System.arraycopy, java/util/Arrays.fill]");
    }

    private static void source(String text) {
        String bare = text.replaceAll("(?s)/\\*.*?\\*/", "").replaceAll("//[^\n]*", "").replaceAll("\"[^\"\n]*\"", "\"\"");
        for (String no : new String[] {"throw", "throws", "try", "catch", "finally", "synchronized", "assert", "volatile", "native",
            "import static", "package", "Object", "var", "yield"}) {
            SEA.due("no " + no, Pattern.compile("\\b" + no + "\\b").matcher(bare).find(), false);
        }
        for (String no : new String[] {"->", "::", "\"\" +", "+ \"\"", "@"}) {
            SEA.due("no " + no, bare.contains(no), false);
        }
        Set<String> library = Set.of("Arrays.fill", "System.arraycopy", "Math.min", "Math.max", "Integer.bitCount");
        Matcher m = Pattern.compile("\\b(Arrays|System|Math|Integer|Long|String|Thread|Runtime)\\.\\w+").matcher(bare);
        while (m.find()) {
            SEA.due(m.group(), library.contains(m.group()) || m.group().equals("Arrays;"), true);
        }
        SEA.due("signs 1 to 127", text.chars().allMatch(ch -> ch > 0 && ch < 128), true);
        methodsAreShort(bare);
    }

    private static void methodsAreShort(String bare) {
        String[] lines = bare.split("\n");
        for (int i = 0; i < lines.length; i++) {
            if (!lines[i].matches("( {4}| {8})(public |private )?(static )?[\\w\\[\\]]+ ?\\w*\\([^;]*\\{")) {
                continue;
            }
            String close = lines[i].replaceAll("\\S.*", "") + "}";
            int last = i;
            while (last < lines.length - 1 && !lines[last].equals(close)) {
                last++;
            }
            SEA.due("short: " + lines[i], last - i <= 60, true);
        }
    }
}
