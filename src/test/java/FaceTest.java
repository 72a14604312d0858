import java.io.IOException;
import java.lang.reflect.Constructor;
import java.lang.reflect.Executable;
import java.lang.reflect.Field;
import java.lang.reflect.Method;
import java.lang.reflect.Modifier;
import java.nio.file.Files;
import java.nio.file.Path;
import java.util.ArrayList;
import java.util.List;
import java.util.Set;
import java.util.TreeSet;
import java.util.regex.Matcher;
import java.util.regex.Pattern;

/** The document's face, no more and no less, and those rules of ../shared/LANGUAGE.md that can be looked up. */
public final class FaceTest {
    private static final Due DUE = new Due("FaceTest");
    private static final String[] FACE = {"int candle 1", "int thick 2", "int door 1", "int open 2", "int pin 2", "int member 4",
        "int drop 1", "int type 1", "int clear 0", "int read 0", "int minute 1", "int undo 0", "int house 1", "int votes 2",
        "int burns 1", "int fallen 1", "int falls 1", "int out 0", "int whose 1", "int reads 3", "int set 3", "int shut 2",
        "int lean 2", "int leaned 1", "int quorum 3", "int tallow 2", "int race 2", "int game 5", "int moths 3", "int loan 1",
        "int image 1", "int from 1", "int status 1", "int count 1", "long digest 0"};
    private static final String[] RULED_OUT = {"throw", "throws", "try", "catch", "synchronized", "assert", "import", "package",
        "equals", "hashCode", "->", "::", "@", "System.out", "Object"};

    public static void main(String[] args) throws IOException {
        face();
        insides();
        source();
        DUE.end();
    }

    private static List<Class<?>> allClasses() {
        List<Class<?>> all = new ArrayList<>();
        all.add(CandleHouse.class);
        for (int i = 0; i < all.size(); i++) {
            all.addAll(List.of(all.get(i).getDeclaredClasses()));
        }
        return all;
    }

    private static void face() {
        Class<?> c = CandleHouse.class;
        DUE.holds("public and final", Modifier.isPublic(c.getModifiers()) && Modifier.isFinal(c.getModifiers()));
        Set<String> due = new TreeSet<>(List.of(FACE));
        Set<String> got = new TreeSet<>();
        for (Method m : c.getDeclaredMethods()) {
            if (!Modifier.isPrivate(m.getModifiers()) && !m.isSynthetic()) {
                DUE.holds("public: " + m, m.getModifiers() == Modifier.PUBLIC);
                got.add(m.getReturnType() + " " + m.getName() + " " + m.getParameterCount());
                for (int i = 0; i < m.getParameterCount(); i++) {
                    boolean flag = m.getName().equals("open") && i == 1;
                    DUE.holds("parameters of " + m, m.getParameterTypes()[i] == (flag ? boolean.class : int.class));
                }
            }
        }
        DUE.holds("the methods are " + due + ", not " + got, due.equals(got));
        Set<String> constants = new TreeSet<>();
        for (Field f : c.getDeclaredFields()) {
            if (!Modifier.isPrivate(f.getModifiers())) {
                constants.add(f.getName());
            }
        }
        DUE.holds("the constants", constants.equals(new TreeSet<>(List.of("NONE", "BAD", "NO", "FULL"))));
        Constructor<?>[] made = c.getDeclaredConstructors();
        DUE.holds("one constructor", made.length == 1 && made[0].getParameterCount() == 0 && made[0].getModifiers() == Modifier.PUBLIC);
    }

    private static void insides() {
        List<Class<?>> all = allClasses();
        DUE.holds("at most twelve classes", all.size() <= 12);
        for (Class<?> c : all) {
            if (c != CandleHouse.class) {
                DUE.holds("static, not public: " + c, Modifier.isStatic(c.getModifiers()) && !Modifier.isPublic(c.getModifiers()));
            }
            int fields = 0;
            for (Field f : c.getDeclaredFields()) {
                boolean fixed = Modifier.isStatic(f.getModifiers());
                fields += fixed ? 0 : 1;
                DUE.holds("static fields are final: " + f, !fixed || Modifier.isFinal(f.getModifiers()));
            }
            DUE.holds("at most twenty fields: " + c, fields <= 20);
            List<Executable> bodies = new ArrayList<>(List.of(c.getDeclaredMethods()));
            bodies.addAll(List.of(c.getDeclaredConstructors()));
            for (Executable e : bodies) {
                DUE.holds("at most seven parameters: " + e, e.getParameterCount() <= 7);
                DUE.holds("no name of a public one: " + e, Modifier.isPublic(e.getModifiers()) || !isInFace(e.getName()));
            }
        }
    }

    private static boolean isInFace(String name) {
        for (String f : FACE) {
            if (f.split(" ")[1].equals(name)) {
                return true;
            }
        }
        return false;
    }

    private static void source() throws IOException {
        String text = Files.readString(Path.of("src/main/java/CandleHouse.java"));
        String code = text.replaceAll("(?s)/\\*.*?\\*/", "").replaceAll("//[^\n]*", "");
        for (String word : RULED_OUT) {
            boolean letters = Character.isLetter(word.charAt(0));
            Matcher m = Pattern.compile(letters ? "\\b" + word + "\\b" : Pattern.quote(word)).matcher(code);
            DUE.holds("no " + word, !m.find());
        }
        String[] lines = text.split("\n");
        newOnlyInConstructors(code.split("\n"));
        int start = 0;
        for (int i = 0; i < lines.length; i++) {
            if (lines[i].matches(" {4,8}[a-zA-Z].*\\) \\{")) {
                start = i;
            }
            if (lines[i].matches(" {4,8}\\}")) {
                DUE.holds("short: line " + start, lines[start].contains("class") || i - start <= 60);
            }
            DUE.holds("plain signs: line " + i, lines[i].chars().allMatch(s -> s >= 32 && s < 127));
        }
    }

    /** All calls of a run live in one room: what is made is made with the object. */
    private static void newOnlyInConstructors(String[] lines) {
        boolean inConstructor = false;
        int made = 0;
        for (String line : lines) {
            if (line.matches(" {4,8}[a-zA-Z].*\\) \\{")) {
                inConstructor = line.matches(" +(public )?[A-Z][a-zA-Z]*\\(.*");
            }
            boolean field = line.matches(" +private final [a-zA-Z\\[\\]]+ [a-zA-Z]+ = new .*");
            if (line.matches(".*\\bnew\\b.*")) {
                made++;
                DUE.holds("made with the object: " + line, field || inConstructor);
            }
        }
        DUE.holds("something is made", made > 0);
    }
}
