import java.lang.management.ManagementFactory;
import java.lang.reflect.Constructor;
import java.lang.reflect.Field;
import java.lang.reflect.Method;
import java.lang.reflect.Modifier;
import java.nio.file.Files;
import java.nio.file.Path;
import java.util.ArrayList;
import java.util.Arrays;
import java.util.List;
import java.util.TreeSet;

/** The public face, and the room that calls take. */
public final class FaceTest {
    public static void main(String[] args) throws Exception {
        hasTheFace();
        namesNoHelperAsTheFace();
        makesNoObjects();
        Check.end("FaceTest");
    }

    private static void hasTheFace() throws Exception {
        Class<?> c = ProgramDrum.class;
        Check.is("the class", Modifier.PUBLIC | Modifier.FINAL, c.getModifiers());
        TreeSet<String> methods = new TreeSet<>();
        for (Method m : c.getDeclaredMethods()) {
            if (!Modifier.isPrivate(m.getModifiers())) {
                methods.add(m.toGenericString().replace("ProgramDrum.", "").replace("java.lang.", ""));
            }
        }
        TreeSet<String> face = documentFace();
        Check.is("28 methods in the document", 28, face.size());
        Check.is("methods", face, methods);
        for (Field f : c.getDeclaredFields()) {
            Check.is("field " + f.getName(), f.getName().equals("NONE"), !Modifier.isPrivate(f.getModifiers()));
        }
        for (Constructor<?> k : c.getDeclaredConstructors()) {
            Check.is("constructor", Modifier.PUBLIC, k.getModifiers());
        }
        for (Class<?> inner : c.getDeclaredClasses()) {
            Check.is("class " + inner.getName(), true, Modifier.isPrivate(inner.getModifiers()));
        }
    }

    /** The methods as the document writes them, without the names of their parameters. */
    private static TreeSet<String> documentFace() throws Exception {
        TreeSet<String> face = new TreeSet<>();
        for (String line : Files.readAllLines(Path.of("../shared/DOC.md"))) {
            if (line.matches("    public int \\w+\\(.*;")) {
                face.add(line.trim().replaceAll("\\b(int|long) \\w+(?=[,)])", "$1").replaceAll(",\\s*", ",").replace(";", ""));
            }
        }
        return face;
    }

    private static void namesNoHelperAsTheFace() throws Exception {
        List<String> names = new ArrayList<>();
        for (String method : documentFace()) {
            names.add(method.replaceAll("public int (\\w+)\\(.*", "$1"));
        }
        List<Method> helpers = new ArrayList<>();
        for (Class<?> inner : ProgramDrum.class.getDeclaredClasses()) {
            helpers.addAll(Arrays.asList(inner.getDeclaredMethods()));
        }
        for (Method m : ProgramDrum.class.getDeclaredMethods()) {
            if (Modifier.isPrivate(m.getModifiers())) {
                helpers.add(m);
            }
        }
        for (Method m : helpers) {
            Check.is(m.getName() + " is no name of the face", false, names.contains(m.getName()));
        }
    }

    /** All calls of a run live in one room: what is made must be made in the constructor. */
    private static void makesNoObjects() {
        com.sun.management.ThreadMXBean threads = (com.sun.management.ThreadMXBean) ManagementFactory.getThreadMXBean();
        long id = Thread.currentThread().getId();
        ProgramDrum x = new ProgramDrum();
        allCalls(x);
        threads.getThreadAllocatedBytes(id);
        long before = threads.getThreadAllocatedBytes(id);
        for (int i = 0; i < 6; i++) {
            allCalls(x);
        }
        long made = threads.getThreadAllocatedBytes(id) - before;
        Check.is("bytes made by calls (" + made + ") are few", true, made < 1000);
    }

    private static void allCalls(ProgramDrum x) {
        x.clearText();
        for (int i = 0; i < 30; i++) {
            x.append("D12o0301--50o1202--30o21----20".charAt(i));
        }
        x.errorPosition();
        x.load();
        x.save(0);
        x.addOrder(0, 1, 2, 3, 4);
        x.lay();
        x.run(0);
        x.move(0, 11);
        x.change(0, 2, 1);
        x.turn(3);
        x.setDrum(11);
        x.undo();
        x.chain(0);
        x.ring(0);
        x.waits(0);
        x.time(0);
        x.bestPlace(0, 1);
        x.leastBribe(2);
        x.saves(0);
        x.runScript(3, 10000_20000_80099L);
        x.simulate(5, 50);
        x.save(1);
        x.restore(0);
    }
}
