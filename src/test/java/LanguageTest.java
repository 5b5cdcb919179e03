import java.io.IOException;
import java.lang.management.ManagementFactory;
import java.lang.reflect.Field;
import java.lang.reflect.Modifier;
import java.nio.file.Files;
import java.nio.file.Path;
import java.util.Arrays;
import java.util.List;
import java.util.Set;
import java.util.TreeSet;
import java.util.regex.Matcher;
import java.util.regex.Pattern;
import java.util.stream.Collectors;

/** The face, what of LANGUAGE.md can be seen in the source, and what calls make. */
public final class LanguageTest {
    private static final List<String> METHODS = List.of(
        "int coded(int)", "int read(int)", "int octet(int)", "int packet(int, int, long)", "int told(int)", "int open(int)",
        "int page(int, int)", "int letter(int, int, int)", "int link(int, int)", "int far(int, int)", "int find(int, int, int)",
        "int weight(int, int)", "int drop(int)", "int drift(int)", "int undo(int)", "int sent(int, int)",
        "int waits(int, int, int)", "int bestRule(int)", "int write(int, int, int, int)", "int tear()", "int seed(int)",
        "int keep(int)", "int goBack(int)");
    private static final List<String> CONSTANTS = List.of("NONE", "UNKNOWN", "OUTSIDE", "NOT", "FULL");
    private static final Set<String> LIBRARY = Set.of("Integer.bitCount", "Math.min", "Math.max", "Math.floorMod",
        "System.arraycopy", "Arrays.fill");
    private static final List<String> FORBIDDEN = List.of("throw", "throws", "try", "catch", "finally", "synchronized", "assert",
        "native", "volatile", "transient", "Object", "System.out", "Random", "Thread", "->", "::", "@", "Exact", "\"");

    public static void main(String[] args) throws IOException {
        face();
        classesInside();
        source(Files.readString(Path.of("src/main/java/PageRounds.java")));
        room();
        Check.end();
    }

    private static void face() {
        Class<?> face = PageRounds.class;
        Check.holds("public and final", Modifier.isPublic(face.getModifiers()) && Modifier.isFinal(face.getModifiers()));
        Check.due("constructors", face.getDeclaredConstructors().length, 1);
        Check.holds("public constructor without arguments", Arrays.stream(face.getConstructors()).anyMatch(c -> c.getParameterCount() == 0));
        Set<String> methods = Arrays.stream(face.getDeclaredMethods()).filter(m -> !Modifier.isPrivate(m.getModifiers()))
            .map(m -> (Modifier.toString(m.getModifiers()).equals("public") ? "" : "not just public: ") + m.getReturnType() + " "
                + m.getName() + Arrays.stream(m.getParameterTypes()).map(Class::toString).collect(Collectors.joining(", ", "(", ")")))
            .collect(Collectors.toCollection(TreeSet::new));
        Check.holds("methods of the face: " + methods, methods.equals(new TreeSet<>(METHODS)));
        Set<String> fields = Arrays.stream(face.getDeclaredFields()).filter(f -> !Modifier.isPrivate(f.getModifiers()))
            .map(f -> (Modifier.toString(f.getModifiers()).equals("public static final") && f.getType() == int.class ? "" : "no int constant: ")
                + f.getName())
            .collect(Collectors.toCollection(TreeSet::new));
        Check.holds("constants of the face: " + fields, fields.equals(new TreeSet<>(CONSTANTS)));
        Set<String> names = METHODS.stream().map(m -> m.substring(4, m.indexOf('('))).collect(Collectors.toSet());
        Check.holds("no private method has a public one's name", Arrays.stream(face.getDeclaredMethods())
            .noneMatch(m -> Modifier.isPrivate(m.getModifiers()) && names.contains(m.getName())));
    }

    private static void classesInside() {
        Class<?>[] inside = PageRounds.class.getDeclaredClasses();
        Check.holds("at most twelve classes", inside.length < 12);
        for (Class<?> one : inside) {
            int is = one.getModifiers();
            Check.holds(one + " is static and not public", Modifier.isStatic(is) && !Modifier.isPublic(is) && !Modifier.isProtected(is));
            fieldsOf(one);
        }
        fieldsOf(PageRounds.class);
    }

    private static void fieldsOf(Class<?> one) {
        int own = 0;
        for (Field f : one.getDeclaredFields()) {
            boolean isStatic = Modifier.isStatic(f.getModifiers());
            Check.holds(f + " is final if it is static", !isStatic || Modifier.isFinal(f.getModifiers()));
            own += isStatic ? 0 : 1;
        }
        Check.holds("some twenty fields in " + one, own <= 20);
    }

    private static void source(String text) {
        String code = text.replaceAll("(?s)/\\*.*?\\*/", "").replaceAll("//[^\n]*", "");
        for (String word : FORBIDDEN) {
            String looked = Character.isLetter(word.charAt(0)) ? "\\b" + Pattern.quote(word) + "\\b" : Pattern.quote(word);
            Check.holds("no " + word, !Pattern.compile(looked).matcher(code).find());
        }
        Matcher imports = Pattern.compile("import\\s+([^;]+);").matcher(code);
        while (imports.find()) {
            Check.holds("import " + imports.group(1), Set.of("java.util.Arrays", "java.util.ArrayList", "java.util.List").contains(imports.group(1)));
        }
        Matcher used = Pattern.compile("\\b(Integer|Long|Math|System|Arrays)\\.\\w+").matcher(code);
        while (used.find()) {
            Check.holds("the library's " + used.group(), LIBRARY.contains(used.group()));
        }
        Check.holds("no package line", !Pattern.compile("(?m)^\\s*package\\b").matcher(code).find());
        Check.holds("signs 1 to 127", text.chars().allMatch(sign -> sign > 0 && sign < 128));
        Check.holds("arrays are made in constructors and initialisers alone",
            Pattern.compile("\\bnew\\b").matcher(code).results().count() == madeInConstructors(code));
    }

    /** How many of the places with 'new' are fields' initialisers or in the trail's constructor. */
    private static long madeInConstructors(String code) {
        return Pattern.compile("(?m)^.*\\bfinal\\b[^;]*;").matcher(code).results()
            .flatMap(field -> Pattern.compile("\\bnew\\b").matcher(field.group()).results()).count()
            + Pattern.compile("ahead\\[i\\] = new State\\(\\);").matcher(code).results().count();
    }

    /** The dearest calls on one object; the constructor's rows must fit many times into the room. */
    private static void room() {
        com.sun.management.ThreadMXBean bean = (com.sun.management.ThreadMXBean) ManagementFactory.getThreadMXBean();
        long self = Thread.currentThread().getId();
        dearCalls(new PageRounds());
        long ahead = bean.getThreadAllocatedBytes(self);
        long measuring = bean.getThreadAllocatedBytes(self) - ahead;
        ahead = bean.getThreadAllocatedBytes(self);
        PageRounds x = new PageRounds();
        long made = bean.getThreadAllocatedBytes(self) - ahead - measuring;
        Check.holds("an object takes less than 50000 octets: " + made, made < 50000);
        ahead = bean.getThreadAllocatedBytes(self);
        dearCalls(x);
        long called = bean.getThreadAllocatedBytes(self) - ahead - measuring;
        Check.holds("calls make nothing: " + called, called < 1000);
    }

    private static void dearCalls(PageRounds x) {
        for (int i = 0; i < 30; i++) {
            x.drift(16);
            x.packet(0, 0, i);
            x.octet(i);
            x.undo(3);
            x.weight(0, 3);
            x.drop(0);
            x.keep(i % 2);
            x.goBack(i % 2);
            x.sent(2, 59);
            x.waits(0, 1, 60);
            x.bestRule(60);
            x.far(0, 1);
            x.page(0, 8);
            x.told(6);
            x.write(0, 0, 0, 0);
        }
    }
}
