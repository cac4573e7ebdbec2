import java.io.IOException;
import java.lang.management.ManagementFactory;
import java.lang.reflect.Field;
import java.lang.reflect.Member;
import java.lang.reflect.Method;
import java.lang.reflect.Modifier;
import java.nio.file.Files;
import java.nio.file.Path;
import java.util.ArrayList;
import java.util.Arrays;
import java.util.Collections;
import java.util.HashSet;
import java.util.List;
import java.util.Set;
import java.util.regex.Matcher;
import java.util.regex.Pattern;

/** The face of the class, the words that LANGUAGE.md rules out, and the room that calls take. */
public final class FaceTest {
    private static final String SOURCE = "src/main/java/SilenceFines.java";
    private static final String[] FACE = {"answer(int,int)", "beat(int)", "chamber()", "drift(int)", "drop()",
        "ever(int)", "fault()", "feed(int,long)", "fits()", "follow()", "goBack(int)", "keep(int)", "law(int,int,int)",
        "laws(int)", "member(int,int)", "plan(int)", "premium(int,int)", "record(int,int)", "run(int,int)", "seed(int)",
        "sure(int)", "tear()", "theme(int,int)", "told(int)", "voices()"};
    private static final String[] RULED_OUT = {"throw", "throws", "try", "catch", "synchronized", "assert", "import",
        "package", "static {", "->", "::", "Exact(", "System", "Object", "hashCode", "toString", "@"};

    private static void constants() {
        Due.is("NONE", SilenceFines.NONE, -1);
        Due.is("UNKNOWN", SilenceFines.UNKNOWN, -1000000001);
        Due.is("OUTSIDE", SilenceFines.OUTSIDE, -1000000002);
        Due.is("NOT", SilenceFines.NOT, -1000000003);
        Due.is("FULL", SilenceFines.FULL, -1000000004);
    }

    private static void face() {
        Class<?> x = SilenceFines.class;
        Due.is("the class is public and final", x.getModifiers() & 17, 17);
        Due.is("constructors", x.getDeclaredConstructors().length, 1);
        Due.is("the constructor is public", x.getDeclaredConstructors()[0].getModifiers() & 1, 1);
        List<String> face = new ArrayList<>();
        Set<String> names = new HashSet<>();
        for (Method m : x.getDeclaredMethods()) {
            if (Modifier.isPublic(m.getModifiers())) {
                face.add(m.getName() + Arrays.toString(m.getParameterTypes()).replace(" ", "").replace('[', '(').replace(']', ')'));
                names.add(m.getName());
                Due.is(m.getName() + " answers an int", m.getReturnType() == int.class ? 1 : 0, 1);
            }
        }
        Collections.sort(face);
        Due.is("the face is that of the document, not " + face, face.equals(List.of(FACE)) ? 1 : 0, 1);
        hidden(x, names);
        for (Class<?> inside : x.getDeclaredClasses()) {
            Due.is(inside + " is static", Modifier.isStatic(inside.getModifiers()) ? 1 : 0, 1);
            for (Method m : inside.getDeclaredMethods()) {
                Due.is(inside + ": " + m.getName() + " bears no public name", names.contains(m.getName()) ? 1 : 0, 0);
            }
        }
        Due.is("classes in the file", x.getDeclaredClasses().length <= 11 ? 1 : 0, 1);
    }

    private static void hidden(Class<?> x, Set<String> names) {
        List<Member> members = new ArrayList<>(List.of(x.getDeclaredMethods()));
        members.addAll(List.of(x.getDeclaredFields()));
        for (Member m : members) {
            boolean isPublic = Modifier.isPublic(m.getModifiers());
            Due.is(m.getName() + " is public or private", isPublic || Modifier.isPrivate(m.getModifiers()) ? 1 : 0, 1);
            Due.is(m.getName() + ": private bears no public name", !isPublic && m instanceof Method && names.contains(m.getName()) ? 1 : 0, 0);
        }
        int constants = 0;
        for (Field f : x.getDeclaredFields()) {
            constants += Modifier.isPublic(f.getModifiers()) ? 1 : 0;
            if (Modifier.isStatic(f.getModifiers())) {
                Due.is(f.getName() + " is final", Modifier.isFinal(f.getModifiers()) ? 1 : 0, 1);
            }
        }
        Due.is("public constants", constants, 5);
    }

    /** Parameters, fields and their types, of the class and of each class inside it. */
    private static void sizes() {
        List<Class<?>> all = new ArrayList<>(List.of(SilenceFines.class.getDeclaredClasses()));
        all.add(SilenceFines.class);
        for (Class<?> one : all) {
            for (Method m : one.getDeclaredMethods()) {
                Due.is(one + ": " + m.getName() + " takes at most seven", m.getParameterCount() <= 7 ? 1 : 0, 1);
            }
            int fields = 0;
            for (Field f : one.getDeclaredFields()) {
                boolean constant = Modifier.isStatic(f.getModifiers());
                fields += constant ? 0 : 1;
                Class<?> type = f.getType();
                while (type.isArray()) {
                    type = type.getComponentType();
                }
                boolean allowed = type.isPrimitive() || !constant && all.contains(type);
                Due.is(one + ": " + f.getName() + " has a type that may stand there", allowed ? 1 : 0, 1);
                Due.is(one + ": " + f.getName() + ", if static, is final", constant && !Modifier.isFinal(f.getModifiers()) ? 1 : 0, 0);
            }
            Due.is(one + " has at most twenty fields, not " + fields, fields <= 20 ? 1 : 0, 1);
        }
    }

    /** No method is longer than sixty lines; one begins and ends with the same indent. */
    private static void lengths() throws IOException {
        Pattern head = Pattern.compile("( {4}| {8})(?!if|else|for|while|do|switch)[A-Za-z].*\\) \\{");
        List<String> lines = Files.readAllLines(Path.of(SOURCE));
        int found = 0;
        for (int first = 0; first < lines.size(); first++) {
            Matcher method = head.matcher(lines.get(first));
            if (method.matches()) {
                int last = first;
                while (last < lines.size() && !lines.get(last).equals(method.group(1) + "}")) {
                    last++;
                }
                found++;
                Due.is("the method at line " + (first + 1) + " has at most sixty lines", last - first < 60 ? 1 : 0, 1);
            }
        }
        int methods = SilenceFines.class.getDeclaredMethods().length;
        for (Class<?> inside : SilenceFines.class.getDeclaredClasses()) {
            methods += inside.getDeclaredMethods().length;
        }
        Due.is("each of " + methods + " methods was measured", found >= methods ? 1 : 0, 1);
    }

    private static void words() throws IOException {
        String code = Files.readString(Path.of(SOURCE))
            .replaceAll("(?s)/\\*.*?\\*/", " ").replaceAll("//[^\n]*", " ");
        for (String word : RULED_OUT) {
            boolean stands = Character.isLetter(word.charAt(0)) && Character.isLetter(word.charAt(word.length() - 1))
                ? code.matches("(?s).*\\b" + word + "\\b.*") : code.contains(word);
            Due.is("'" + word + "' stands in the source", stands ? 1 : 0, 0);
        }
    }

    private static long allocated() {
        return ((com.sun.management.ThreadMXBean) ManagementFactory.getThreadMXBean()).getCurrentThreadAllocatedBytes();
    }

    /** Rows are made once: 480 of the dearest calls need next to nothing beside the object itself. */
    private static void room() {
        SilenceFines x = Due.chamber("member 4 1 99;member 4 2 99;member 4 3 99;member 4 1 99;law all 99 1;cough 9;", 4);
        for (int i = 0; i < 20; i++) {
            x.plan(i * 5 % 16);
        }
        for (int i = 0; i < 7; i++) {
            x.record(9, 1);
        }
        allocated();
        long before = allocated();
        for (int i = 0; i < 40; i++) {
            dear(x, i);
        }
        Due.is("480 dear calls take less than 20000 bytes", allocated() - before < 20000 ? 1 : 0, 1);
    }

    private static void dear(SilenceFines x, int i) {
        x.answer(i % 4, 1);
        x.fits();
        x.sure(i % 7);
        x.drift(99);
        x.run(-1, 0);
        x.laws(i % 3);
        x.keep(i % 2);
        x.goBack(i % 2);
        x.voices();
        x.ever(i % 16);
        x.follow();
        x.premium(50, 1);
    }

    public static void main(String[] args) throws IOException {
        constants();
        face();
        sizes();
        lengths();
        words();
        room();
        Due.end("FaceTest");
    }
}
