import java.io.File;
import java.io.PrintWriter;
import java.io.StringWriter;
import java.util.ArrayList;
import java.util.List;
import java.util.Optional;
import java.util.Set;
import java.util.TreeMap;
import java.util.TreeSet;
import java.util.regex.Matcher;
import java.util.regex.Pattern;
import java.util.spi.ToolProvider;

/** What calls what in the compiled class, and where objects are made: for the rules of LANGUAGE.md on both. */
final class Bytecode {
    private static final Pattern CLASS = Pattern.compile("^(?:[a-z]+ )*class ([\\w$]+)");
    private static final Pattern METHOD = Pattern.compile("^  (?:[^ (]+ )*([\\w$]+)\\(.*\\);$");
    private static final Pattern INVOKED = Pattern.compile("invoke\\w+ +#.*// Method (?:([\\w/$]+)\\.)?\"?([\\w<>]+)\"?:");
    private static final Pattern MAKES = Pattern.compile("^ +\\d+: (new|newarray|anewarray|multianewarray) ");

    /** Of each method of the class and of those inside it: the methods that it calls. */
    final TreeMap<String, Set<String>> calls = new TreeMap<>();
    /** The methods that make an object or an array. */
    final Set<String> makers = new TreeSet<>();

    /** Nothing is read, and isThere() is false, if this Java has no javap. */
    Bytecode(File folder) {
        Optional<ToolProvider> javap = ToolProvider.findFirst("javap");
        File[] files = folder.listFiles((dir, name) -> name.matches("CargoFlag(\\$\\w+)?\\.class"));
        if (javap.isEmpty() || files == null) {
            return;
        }
        List<String> args = new ArrayList<>(List.of("-c", "-p"));
        for (File f : files) {
            args.add(f.getPath());
        }
        StringWriter text = new StringWriter();
        PrintWriter out = new PrintWriter(text);
        javap.get().run(out, out, args.toArray(new String[0]));
        out.flush();
        read(text.toString());
    }

    private void read(String text) {
        String within = "";
        String method = "";
        for (String line : text.split("\n")) {
            Matcher c = CLASS.matcher(line);
            Matcher m = METHOD.matcher(line);
            Matcher i = INVOKED.matcher(line);
            if (c.find()) {
                within = c.group(1);
            } else if (m.find()) {
                method = within + "." + (m.group(1).equals(within) ? "<init>" : m.group(1));
                calls.put(method, new TreeSet<>());
            } else if (i.find()) {
                calls.get(method).add((i.group(1) == null ? within : i.group(1)) + "." + i.group(2));
            } else if (MAKES.matcher(line).find()) {
                makers.add(method);
            }
        }
    }

    boolean isThere() {
        return !calls.isEmpty();
    }

    /** The methods that can come to themselves again. */
    Set<String> recursive() {
        Set<String> found = new TreeSet<>();
        for (String m : calls.keySet()) {
            Set<String> reached = new TreeSet<>(calls.get(m));
            for (int size = 0; size != reached.size();) {
                size = reached.size();
                for (String r : new ArrayList<>(reached)) {
                    reached.addAll(calls.getOrDefault(r, Set.of()));
                }
            }
            if (reached.contains(m)) {
                found.add(m);
            }
        }
        return found;
    }

    /** How many methods stand open at once from this one on, each counted once. */
    int depth(String method, Set<String> open) {
        Set<String> now = new TreeSet<>(open);
        now.add(method);
        int most = 0;
        for (String next : calls.get(method)) {
            if (calls.containsKey(next) && !now.contains(next)) {
                most = Math.max(most, depth(next, now));
            }
        }
        return most + 1;
    }

    Set<String> library() {
        Set<String> all = new TreeSet<>();
        for (Set<String> some : calls.values()) {
            for (String m : some) {
                if (!calls.containsKey(m)) {
                    all.add(m);
                }
            }
        }
        return all;
    }
}
