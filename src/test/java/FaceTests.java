import java.io.IOException;
import java.lang.reflect.Constructor;
import java.lang.reflect.Executable;
import java.lang.reflect.Field;
import java.lang.reflect.Method;
import java.lang.reflect.Modifier;
import java.nio.file.Files;
import java.nio.file.Path;
import java.util.ArrayList;
import java.util.HashSet;
import java.util.List;
import java.util.Set;
import java.util.TreeSet;
import java.util.regex.Matcher;
import java.util.regex.Pattern;

/** The public face as the document writes it, and those rules of ../shared/LANGUAGE.md that can be looked up. */
final class FaceTests {
    private static final String I = "IndexOutOfBoundsException";
    private static final String A = "IllegalArgumentException";
    private static final String S = "IllegalStateException";

    private FaceTests() {
    }

    static void all() {
        Check.test("face: methods", FaceTests::methods);
        Check.test("face: constructor and constants", FaceTests::constructorAndConstants);
        Check.test("face: nothing else", FaceTests::nothingElse);
        Check.test("face: its parts, each under its line", FaceTests::parts);
        Check.test("language: the source", FaceTests::source);
        Check.test("language: fields and parameters", FaceTests::fieldsAndParameters);
        Check.test("language: what calls make", FaceTests::whatCallsMake);
    }

    private static Set<String> face() {
        return new TreeSet<>(List.of(
                "int addRing(int,int,int) " + String.join(",", A, S, I),
                "int setPatience(int,int) " + String.join(",", A, I),
                "int set(int,int) " + A,
                "int write(int,int) " + String.join(",", A, S, I),
                "int move(int,int,int,int,int) " + String.join(",", A, S, I),
                "int sign(int) " + String.join(",", S, I),
                "int strike(int,boolean) " + String.join(",", S, I),
                "int pass(int) " + String.join(",", A, S),
                "int sweep() ",
                "int cell(int) " + I,
                "int ring(int,int) " + String.join(",", A, I),
                "int moveOf(int,int) " + String.join(",", A, I),
                "int hostage(int,int) " + String.join(",", A, I),
                "long cellSet(int,boolean) " + I,
                "long held() ",
                "int whole(int) " + A,
                "int reason(int) " + I,
                "int waitsFor(int) " + I,
                "int depth(int) " + I,
                "int finalValue(int) " + I,
                "int copiedIn(int) " + I,
                "int stuck() ",
                "int type(int) " + String.join(",", A, S),
                "int clearCommands() ",
                "int runCommands() ",
                "int undo() " + S,
                "long digest() "));
    }

    private static String names(Class<?>[] types, boolean sorted) {
        List<String> names = new ArrayList<>();
        for (Class<?> type : types) {
            names.add(type.getSimpleName());
        }
        if (sorted) {
            names.sort(null);
        }
        return String.join(",", names);
    }

    private static String written(Method m) {
        return m.getReturnType() + " " + m.getName() + "(" + names(m.getParameterTypes(), false) + ") "
                + names(m.getExceptionTypes(), true);
    }

    private static void methods() {
        Set<String> got = new TreeSet<>();
        for (Method m : HostageRings.class.getDeclaredMethods()) {
            if (Modifier.isPublic(m.getModifiers())) {
                got.add(written(m));
                Check.isTrue(m.getName() + " stands on an object", !Modifier.isStatic(m.getModifiers()));
            }
        }
        Check.isTrue("face " + got, got.equals(face()));
    }

    private static void constructorAndConstants() {
        Check.isTrue("public and final", Modifier.isPublic(HostageRings.class.getModifiers())
                && Modifier.isFinal(HostageRings.class.getModifiers()));
        Constructor<?>[] all = HostageRings.class.getDeclaredConstructors();
        Check.equal("constructors", 1, all.length);
        Check.isTrue("public, without parameters", Modifier.isPublic(all[0].getModifiers())
                && all[0].getParameterCount() == 0 && all[0].getExceptionTypes().length == 0);
        for (Field f : HostageRings.class.getFields()) {
            Check.isTrue("the one constant is " + f, f.toString().equals("public static final int HostageRings.NONE"));
        }
        Check.equal("public fields", 1, HostageRings.class.getFields().length);
        Check.equal("NONE", -1000, HostageRings.NONE);
    }

    private static void nothingElse() {
        Set<String> publicNames = new HashSet<>();
        for (String method : face()) {
            publicNames.add(method.replaceAll("^\\w+ (\\w+).*", "$1"));
        }
        for (Method m : HostageRings.class.getDeclaredMethods()) {
            boolean open = Modifier.isPublic(m.getModifiers());
            Check.isTrue(m + " is public or private", open || Modifier.isPrivate(m.getModifiers()) || m.isSynthetic());
            Check.isTrue(m + " bears no public name", open || !publicNames.contains(m.getName()));
        }
        for (Field f : HostageRings.class.getDeclaredFields()) {
            Check.isTrue(f + " is private", Modifier.isPrivate(f.getModifiers()) || f.getName().equals("NONE"));
        }
        Class<?>[] inside = HostageRings.class.getDeclaredClasses();
        Check.isTrue("some twelve classes", inside.length < 12);
        for (Class<?> c : inside) {
            Check.isTrue(c + " is private and static", Modifier.isPrivate(c.getModifiers())
                    && Modifier.isStatic(c.getModifiers()));
            for (Method m : c.getDeclaredMethods()) {
                Check.isTrue(m + " bears no public name", !publicNames.contains(m.getName()));
            }
        }
    }

    private static void parts() {
        StringBuilder parts = new StringBuilder();
        Matcher m = Pattern.compile("// ---- ([\\w ,]+)|\n    public (?:int|long) (\\w+)\\(").matcher(program());
        while (m.find()) {
            parts.append(m.group(1) == null ? " " + m.group(2) : " [" + m.group(1) + "]");
        }
        Check.isTrue("parts" + parts, parts.toString().equals(" [rings and memory] addRing setPatience set write"
                + " [moves] move sign strike pass sweep"
                + " [values] cell ring moveOf hostage cellSet held whole"
                + " [what if, which changes nothing] reason waitsFor depth finalValue copiedIn stuck"
                + " [command text, undo and checksum] type clearCommands runCommands undo digest"));
    }

    private static String program() {
        try {
            return Files.readString(Path.of("src/main/java/HostageRings.java"));
        } catch (IOException e) {
            throw new IllegalStateException(e);
        }
    }

    private static String code() {
        return program().replaceAll("(?s)/\\*.*?\\*/", " ").replaceAll("//[^\n]*", " ");
    }

    private static void source() {
        String code = code();
        String[] ruledOut = {"\\bimport\\b", "\\bpackage\\b", "->", "::", "\\btry\\b", "\\bcatch\\b", "\\bfinally\\b",
            "\\bsynchronized\\b", "\\bassert\\b", "\\bSystem\\.(?!arraycopy)", "\\bdouble\\b", "\\bfloat\\b",
            "Exact\\(", "\\bextends\\b", "\\bimplements\\b", "\\bnative\\b", "\\bprotected\\b", "\\bstatic\\s*\\{",
            "\\bObject\\b", "\\bThread\\b", "\\bhashCode\\b", "\\btoString\\b", "\\bequals\\b", "\" *\\+", "\\+ *\""};
        for (String piece : ruledOut) {
            Matcher m = Pattern.compile(piece).matcher(code);
            Check.isTrue("no " + piece, !m.find());
        }
        Matcher thrown = Pattern.compile("\\bthrow (.*?;)").matcher(code);
        while (thrown.find()) {
            Check.isTrue("thrown as it may be: " + thrown.group(1), thrown.group(1).matches(
                    "new (" + I + "|" + A + "|" + S + ")\\(\"[^\"]*\"\\);"));
        }
    }

    private static void fieldsAndParameters() {
        List<Class<?>> all = new ArrayList<>(List.of(HostageRings.class.getDeclaredClasses()));
        all.add(HostageRings.class);
        for (Class<?> c : all) {
            int own = 0;
            for (Field f : c.getDeclaredFields()) {
                boolean fixed = Modifier.isStatic(f.getModifiers());
                own += fixed ? 0 : 1;
                Check.isTrue(f + " is final", !fixed || Modifier.isFinal(f.getModifiers()));
            }
            Check.isTrue("some twenty fields in " + c, own <= 20);
            List<Executable> bodies = new ArrayList<>(List.of(c.getDeclaredMethods()));
            bodies.addAll(List.of(c.getDeclaredConstructors()));
            for (Executable e : bodies) {
                Check.isTrue(e + " has at most seven parameters", e.getParameterCount() <= 7);
            }
        }
    }

    /** All is made in constructors: a call makes nothing but the exception that it throws. */
    private static void whatCallsMake() {
        Matcher m = Pattern.compile("\\bnew (\\w+)").matcher(code());
        Set<String> made = new TreeSet<>();
        while (m.find()) {
            made.add(m.group(1));
        }
        Check.isTrue("made: " + made, made.equals(Set.of("State", "History", "CommandText", "Ring", "Move", "int",
                "char", I, A, S)));
        HostageRings x = new HostageRings();
        String text = "ring 0 16 5; ring 16 16 3; move 0 0 1 3 16; move 1 4 0 5 9; ticks 1;";
        for (int k = 0; k < text.length(); k++) {
            x.type(text.charAt(k));
        }
        x.runCommands();
        dearCalls(x);
        com.sun.management.ThreadMXBean bean =
                (com.sun.management.ThreadMXBean) java.lang.management.ManagementFactory.getThreadMXBean();
        long thread = Thread.currentThread().getId();
        long before = bean.getThreadAllocatedBytes(thread);
        for (int k = 0; k < 50; k++) {
            dearCalls(x);
        }
        long bytes = bean.getThreadAllocatedBytes(thread) - before;
        Check.isTrue("no objects in four hundred dear calls, but " + bytes + " bytes", bytes < 6400);
    }

    private static void dearCalls(HostageRings x) {
        x.digest();
        x.copiedIn(1);
        x.stuck();
        x.finalValue(20);
        x.runCommands();
        x.undo();
        x.sweep();
        x.undo();
    }
}
