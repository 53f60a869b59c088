import java.lang.management.ManagementFactory;
import java.lang.reflect.Modifier;
import java.util.ArrayList;
import java.util.List;
import java.util.TreeSet;

/** The face of the class, the room that its calls take, and texts of shared/LANGUAGE.md that a look can find. */
public final class RoomTest {
    public static void main(String[] args) throws Exception {
        face();
        callsMakeNothing();
        words();
        Due.finish();
    }

    private static void face() {
        TreeSet<String> names = new TreeSet<>();
        for (var method : InterruptInn.class.getDeclaredMethods()) {
            if (!Modifier.isPrivate(method.getModifiers())) {
                names.add(method.getName());
                Due.due(method + " is public", Modifier.isPublic(method.getModifiers()) ? 1 : 0, 1);
                Due.due(method + " is static", Modifier.isStatic(method.getModifiers()) ? 1 : 0, 0);
                Due.due(method + " answers", method.getReturnType(), int.class);
            }
        }
        Due.due("methods", names.toString(), "[beginsIn, bound, carryOut, change, count, fault, greatestBar, hold, "
            + "idleIn, line, load, mask, missesIn, ofLine, ofNest, ofTimer, put, raise, restore, save, set, stop, "
            + "ticks, timer, undo, wipe]");
        for (var method : InterruptInn.class.getDeclaredMethods()) {
            boolean hides = Modifier.isPrivate(method.getModifiers()) && names.contains(method.getName());
            Due.due(method.getName() + " bears the name of a public one", hides ? 1 : 0, 0);
        }
        int constants = 0;
        for (var field : InterruptInn.class.getDeclaredFields()) {
            if (Modifier.isPublic(field.getModifiers())) {
                constants++;
            } else {
                Due.due(field + " is private", Modifier.isPrivate(field.getModifiers()) ? 1 : 0, 1);
            }
            boolean isFinal = Modifier.isFinal(field.getModifiers());
            Due.due(field + " is final", isFinal ? 1 : 0, 1);
        }
        Due.due("constants", constants, 13);
        Due.due("constructors", InterruptInn.class.getConstructors().length, 1);
        Due.due("class", InterruptInn.class.getModifiers(), Modifier.PUBLIC | Modifier.FINAL);
    }

    private static int callAll(InterruptInn x) {
        int sum = x.set(InterruptInn.AGE, 7) + x.raise(0) + x.hold(1, 2, 1) + x.mask(3, 0) + x.change(2, 3, 4, 5);
        sum += x.timer(0, 9, x.count(0)) + x.stop(1) + x.ticks(50) + x.line(1, 1, 1, 1) + x.ofLine(0, 7);
        sum += x.ofNest(0, 0) + x.ofTimer(0, 0) + x.count(5) + x.beginsIn(2) + x.idleIn() + x.missesIn(100);
        sum += x.greatestBar(2, 20) + x.bound(0) + x.load() + x.put(0x74393b7541L) + x.fault() + x.carryOut();
        sum += x.put('u') + x.wipe() + x.save(0) + x.restore(0) + x.undo() + x.raise(99) + x.put(-1);
        return sum;
    }

    /** All is made in the constructor: 29 calls of all kinds, 200 times over, take no room. */
    private static void callsMakeNothing() {
        var threads = (com.sun.management.ThreadMXBean) ManagementFactory.getThreadMXBean();
        InterruptInn x = Due.busy();
        callAll(x);
        long id = Thread.currentThread().getId();
        threads.getThreadAllocatedBytes(id);
        long before = threads.getThreadAllocatedBytes(id);
        for (int i = 0; i < 200; i++) {
            callAll(x);
        }
        long bytes = threads.getThreadAllocatedBytes(id) - before;
        Due.due("room that calls take: " + bytes, bytes < 10000 ? 1 : 0, 1);
    }

    private static void words() throws Exception {
        String file = System.getProperty("class.file", "src/main/java/InterruptInn.java");
        String text = java.nio.file.Files.readString(java.nio.file.Path.of(file));
        List<String> found = new ArrayList<>();
        for (String word : List.of("throw", "throws", "try", "catch", "synchronized", "assert", "import", "package",
                "instanceof", "protected", "native", "lambda", "hashCode", "toString")) {
            if (text.matches("(?s).*\\b" + word + "\\b.*")) {
                found.add(word);
            }
        }
        for (String sign : List.of("->", "::", "\t", "\" +", "+ \"")) {
            if (text.contains(sign)) {
                found.add(sign);
            }
        }
        Due.due("words that LANGUAGE.md rules out", found.toString(), "[]");
        Due.due("signs above 127", text.chars().filter(c -> c > 127).count(), 0);
        Due.due("methods of more than sixty lines", longMethods(text), 0);
    }

    /** Methods of the outer class are indented by 4, those of the classes inside by 8. */
    private static int longMethods(String text) {
        int found = 0;
        int start = 0;
        String[] lines = text.split("\n");
        for (int i = 0; i < lines.length; i++) {
            if (lines[i].matches(" {4}( {4})?\\S.*\\(.*\\) \\{")) {
                start = i;
            }
            if (lines[i].matches(" {4}( {4})?\\}") && i - start > 60 && !lines[i].equals("    }")) {
                found++;
            }
        }
        return found;
    }
}
