import java.io.IOException;
import java.lang.reflect.Constructor;
import java.lang.reflect.Field;
import java.lang.reflect.Method;
import java.lang.reflect.Modifier;
import java.nio.file.Files;
import java.nio.file.Path;
import java.util.Arrays;
import java.util.Set;
import java.util.TreeSet;
import java.util.regex.Matcher;
import java.util.regex.Pattern;

/** The face of the class, and what ../shared/LANGUAGE.md rules out. It is run from the project's root. */
public final class RulesTest {
    private static final String[] FACE = {
        "cell(int,int)", "clearText()", "close(int)", "commit(int)", "committed(int,int)", "count(int)",
        "forbidSkew(boolean)", "keep()", "lasts(int)", "open(int)", "pay(int,int)", "read(int,int)",
        "readWrites(int)", "reader(int,int)", "restore()", "setRent(int)", "tick(int)", "type(char)",
        "undo()", "version(int,int,int)", "widow(int,int)", "write(int,int,int)",
    };
    private static final String[] CONSTANTS = {
        "BAD_VALUE=-2", "CONFLICT=-6", "FULL=-3", "NONE=-5", "NOT_POSSIBLE=-4", "UNKNOWN=-1",
    };
    private static final String RULED_OUT =
        "\\b(throw|throws|try|catch|synchronized|assert|package|protected|instanceof|lambda|Object|Exception"
            + "|System\\.(?!arraycopy)\\w+|Random|Thread|float|double)\\b|->|::";
    private static final int MOST_LINES = 60;

    public static void main(String[] args) throws ReflectiveOperationException, IOException {
        methods();
        fields();
        constructors();
        source(Files.readString(Path.of("src/main/java/RentedMoments.java")));
        noObjectsAfterTheConstructor();
        Due.end("RulesTest");
    }

    private static void methods() {
        Set<String> face = new TreeSet<>();
        Set<String> names = new TreeSet<>();
        for (Method m : RentedMoments.class.getDeclaredMethods()) {
            String types = Arrays.toString(Arrays.stream(m.getParameterTypes()).map(Class::getName).toArray());
            if (Modifier.isPublic(m.getModifiers())) {
                face.add(m.getName() + "(" + types.replaceAll("[\\[\\] ]", "") + ")");
                names.add(m.getName());
                Due.is(m.getName() + " answers int", m.getReturnType() == int.class ? 1 : 0, 1);
            }
        }
        Due.is("the face " + face, face.equals(new TreeSet<>(Arrays.asList(FACE))) ? 1 : 0, 1);
        for (Class<?> c : RentedMoments.class.getDeclaredClasses()) {
            Due.is(c + " is static", Modifier.isStatic(c.getModifiers()) ? 1 : 0, 1);
            Due.is(c + " is not public", Modifier.isPublic(c.getModifiers()) ? 1 : 0, 0);
            for (Method m : c.getDeclaredMethods()) {
                Due.is(c + " has " + m.getName(), names.contains(m.getName()) ? 1 : 0, 0);
            }
        }
        for (Method m : RentedMoments.class.getDeclaredMethods()) {
            boolean isPublic = Modifier.isPublic(m.getModifiers());
            Due.is(m + " is public or private", isPublic || Modifier.isPrivate(m.getModifiers()) ? 1 : 0, 1);
            Due.is(m + " has its own name", !isPublic && names.contains(m.getName()) ? 1 : 0, 0);
        }
    }

    private static void fields() throws IllegalAccessException {
        Set<String> constants = new TreeSet<>();
        for (Field f : RentedMoments.class.getDeclaredFields()) {
            if (Modifier.isPublic(f.getModifiers())) {
                constants.add(f.getName() + "=" + f.getInt(null));
            } else {
                Due.is(f + " is private", Modifier.isPrivate(f.getModifiers()) ? 1 : 0, 1);
            }
            boolean staticNotFinal = Modifier.isStatic(f.getModifiers()) && !Modifier.isFinal(f.getModifiers());
            Due.is(f + " is final", staticNotFinal ? 1 : 0, 0);
        }
        Due.is("the constants " + constants,
            constants.equals(new TreeSet<>(Arrays.asList(CONSTANTS))) ? 1 : 0, 1);
    }

    private static void constructors() {
        Constructor<?>[] all = RentedMoments.class.getDeclaredConstructors();
        Due.is("constructors", all.length, 1);
        Due.is("without parameters", all[0].getParameterCount(), 0);
        Due.is("public", Modifier.isPublic(all[0].getModifiers()) ? 1 : 0, 1);
        Due.is("final class", Modifier.isFinal(RentedMoments.class.getModifiers()) ? 1 : 0, 1);
    }

    private static void source(String whole) {
        String code = whole.replaceAll("(?s)/\\*.*?\\*/", "").replaceAll("//.*", "");
        Matcher found = Pattern.compile(RULED_OUT).matcher(code);
        while (found.find()) {
            Due.is("'" + found.group() + "' in the source", 1, 0);
        }
        for (int i = 0; i < whole.length(); i++) {
            if (whole.charAt(i) > 126) {
                Due.is("the sign " + (int) whole.charAt(i) + " in the source", 1, 0);
            }
        }
        methodLengths(code);
    }

    /** A method begins at a line that ends with "{" and has a "(" before any "=", if, for and the like. */
    private static void methodLengths(String code) {
        Pattern head = Pattern.compile("^( {4}| {8})(?!if|for|while|switch|else|return)\\w[^=;]*\\(.*\\{$");
        String end = "";
        int lines = 0;
        for (String line : code.split("\n")) {
            lines++;
            Matcher m = head.matcher(line);
            if (end.isEmpty() && m.matches()) {
                end = m.group(1) + "}";
                lines = 0;
            } else if (line.equals(end)) {
                Due.is("a method has " + lines + " lines", lines > MOST_LINES ? 1 : 0, 0);
                end = "";
            }
        }
    }

    /** Every call of a run counts against one room of objects: the constructor makes all of them. */
    private static void noObjectsAfterTheConstructor() {
        com.sun.management.ThreadMXBean bean =
            (com.sun.management.ThreadMXBean) java.lang.management.ManagementFactory.getThreadMXBean();
        RentedMoments x = new RentedMoments();
        callAll(x);
        long before = bean.getCurrentThreadAllocatedBytes();
        for (int i = 0; i < 30; i++) {
            callAll(x);
        }
        long bytes = bean.getCurrentThreadAllocatedBytes() - before;
        // What the measuring itself makes is far less than one small object for each call.
        Due.is("bytes made by all calls: " + bytes, bytes > 4096 ? 1 : 0, 0);
    }

    private static void callAll(RentedMoments x) {
        int reader = x.open(50);
        x.pay(reader, 5);
        x.type('1');
        x.type('=');
        x.type('5');
        x.readWrites(reader);
        x.clearText();
        x.read(reader, 0);
        x.write(reader, 2, 3);
        x.widow(reader, 1);
        x.setRent(reader & 63);
        x.forbidSkew((reader & 1) == 0);
        x.keep();
        x.commit(reader);
        x.tick(3);
        x.lasts(x.open(1));
        x.close(reader + 1);
        x.undo();
        x.restore();
        x.cell(0, 3);
        x.version(0, 0, 4);
        x.reader(reader, 3);
        x.committed(0, 5);
        x.count(7);
        x.undo();
        x.undo();
        x.undo();
    }
}
