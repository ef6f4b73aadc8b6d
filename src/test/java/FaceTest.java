import java.io.IOException;
import java.lang.reflect.Member;
import java.lang.reflect.Method;
import java.lang.reflect.Modifier;
import java.nio.file.Files;
import java.nio.file.Path;
import java.util.Arrays;
import java.util.TreeSet;
import java.util.regex.Matcher;
import java.util.regex.Pattern;

/** The face of the class and the rules of LANGUAGE.md, as far as a test can see them. */
public final class FaceTest {
    private static final Due due = new Due();

    private static final String[] FACE = {"feed(int)", "end(int)", "text()", "fault()", "rule(int)", "corner(int,int)",
        "walker(int,int)", "letter(int,int)", "gloves(int)", "leads(int,int,int)", "street(int,int,int)",
        "sign(int,boolean)", "clock(int)", "put(int,int)", "keeps(int,boolean)", "adds(int,int)", "again(int)",
        "buy(int,int)", "go(int)", "ahead(int,int,int)", "clash(int,int)", "way(int,int,int,int)",
        "both(int,int,int,int)", "reach(int,int,int)", "when(int,int,int)", "signs(int,int,int)",
        "meet(int,int,int)", "shake(int,int)", "pairs(int)", "needs(int,int,int)", "luck(int,int,int,int)",
        "see(int,int,int,boolean)", "forget(int)", "fits(int,int)", "drift(int,int,int)", "keep(int)", "back(int)",
        "sheet(int,int,int)", "lay(int,int,int)", "read(int,int,int,int)", "torn()", "count(int)"};

    private static final String[] FORBIDDEN = {"throw", "throws", "try", "catch", "finally", "synchronized", "assert",
        "instanceof", "yield", "->", "::", "\\bString\\.format", "System\\.(?!arraycopy)", "Exact\\b", "\\.equals\\(",
        "hashCode", "toString", "@", "protected", "volatile", "transient", "static \\{", "Math\\.random",
        "\\bdouble\\b", "\\bfloat\\b", "Integer\\.MAX_VALUE"};

    public static void main(String[] args) throws IOException {
        constants();
        face();
        String code = Files.readString(Path.of("src/main/java/NoonCity.java"));
        String bare = code.replaceAll("(?s)/\\*.*?\\*/", "").replaceAll("//[^\n]*", "");
        forbidden(bare);
        names(bare);
        lengths(bare);
        room();
        due.close("FaceTest");
    }

    private static void constants() {
        due.is("BAD", NoonCity.BAD, -1);
        due.is("STATE", NoonCity.STATE, -2);
        due.is("FULL", NoonCity.FULL, -3);
        due.is("NONE", NoonCity.NONE, -4);
    }

    private static boolean isHidden(Member m) {
        return Modifier.isPrivate(m.getModifiers()) || m.isSynthetic();
    }

    private static void face() {
        TreeSet<String> want = new TreeSet<>(Arrays.asList(FACE));
        TreeSet<String> have = new TreeSet<>();
        for (Method m : NoonCity.class.getDeclaredMethods()) {
            if (!isHidden(m)) {
                String types = String.join(",", Arrays.stream(m.getParameterTypes()).map(Class::getName).toList());
                have.add(m.getName() + "(" + types + ")");
                due.holds(m + " is public", Modifier.isPublic(m.getModifiers()));
                due.holds(m + " answers", m.getReturnType() == (m.getName().equals("luck") ? long.class : int.class));
            }
        }
        due.holds("the methods are those of the document: " + have, have.equals(want));
        long open = Arrays.stream(NoonCity.class.getDeclaredFields()).filter(f -> !isHidden(f)).count();
        due.is("the constants alone are public", open, 4);
        due.is("one constructor", NoonCity.class.getDeclaredConstructors().length, 1);
        due.holds("the class is final", Modifier.isFinal(NoonCity.class.getModifiers()));
        due.holds("some twelve classes", NoonCity.class.getDeclaredClasses().length <= 12);
        for (Class<?> inside : NoonCity.class.getDeclaredClasses()) {
            due.holds(inside + " is static and private",
                Modifier.isStatic(inside.getModifiers()) && Modifier.isPrivate(inside.getModifiers()));
            due.holds(inside + ": some twenty fields", Arrays.stream(inside.getDeclaredFields())
                .filter(f -> !Modifier.isStatic(f.getModifiers())).count() <= 20);
            for (Method m : inside.getDeclaredMethods()) {
                due.holds(m + " bears no name of a public one",
                    want.stream().noneMatch(w -> w.startsWith(m.getName() + "(")));
                due.holds(m + " takes seven at most", m.getParameterCount() <= 7);
            }
        }
    }

    private static void forbidden(String code) {
        for (String word : FORBIDDEN) {
            String pattern = word.matches("[a-z]+") ? "\\b" + word + "\\b" : word;
            due.holds("the program has no " + word, !Pattern.compile(pattern).matcher(code).find());
        }
        Matcher imports = Pattern.compile("import ([^;]*);").matcher(code);
        while (imports.find()) {
            due.holds("import " + imports.group(1), imports.group(1).equals("java.util.Arrays"));
        }
        due.holds("signs 1 to 127 alone", code.chars().allMatch(c -> c > 0 && c < 128));
    }

    /** Calls that no rule names: what stands behind Math, Integer, Long and Arrays. */
    private static void names(String code) {
        Matcher calls = Pattern.compile("\\b(Math|Integer|Long|Arrays)\\.(\\w+)").matcher(code);
        while (calls.find()) {
            due.holds(calls.group(), calls.group().matches("Math\\.(max|min)|Integer\\.bitCount|Arrays\\.fill"));
        }
    }

    private static void lengths(String code) {
        int from = -1;
        String[] lines = code.split("\n");
        for (int i = 0; i < lines.length; i++) {
            if (lines[i].matches("\\s+(public |private |static |final )*[\\w\\[\\]]+ \\w+\\(.*\\) \\{|\\s+(public )?[A-Z]\\w*\\(.*\\) \\{")) {
                from = i;
            }
            if (from >= 0 && lines[i].equals(lines[from].replaceAll("\\S.*", "") + "}")) {
                due.holds("a method stays short: " + lines[from].trim(), i - from <= 60);
                from = -1;
            }
        }
    }

    /** The constructor is all that makes anything; a run may make many objects in its one room. */
    private static void room() {
        com.sun.management.ThreadMXBean room =
            (com.sun.management.ThreadMXBean) java.lang.management.ManagementFactory.getThreadMXBean();
        long id = Thread.currentThread().getId();
        use(new NoonCity());
        NoonCity[] all = new NoonCity[50];
        long before = room.getThreadAllocatedBytes(id);
        for (int i = 0; i < all.length; i++) {
            all[i] = new NoonCity();
        }
        long made = (room.getThreadAllocatedBytes(id) - before) / all.length;
        due.holds("a new object is small: " + made + " bytes", made > 0 && made < 16000);
        before = room.getThreadAllocatedBytes(id);
        for (NoonCity x : all) {
            use(x);
        }
        long more = room.getThreadAllocatedBytes(id) - before;
        due.holds("calls make nothing: " + more + " bytes", more < 4000);
    }

    private static void use(NoonCity x) {
        String text = "city 8;left 0 1;right 0 2;left 1 0;right 2 0;walker 0 left lrlr;keeper 1 right rrl;sign 2;";
        for (int round = 0; round < 4; round++) {
            for (int i = 0; i < text.length(); i++) {
                x.feed(text.charAt(i));
            }
            x.text();
            x.keep(0);
            x.go(5);
            x.back(0);
            x.way(0, 2, 11, 10);
            x.both(0, 2, 11, 10);
            x.signs(0, 2, 3);
            x.when(0, 2, 1);
            x.luck(0, 3, 0, 1);
            x.needs(4, 5, 1);
            x.drift(round, 60, 1);
            x.see(0, 3, 1, true);
            x.fits(0, 0);
            x.sheet(round % 4, round % 3, 40);
            x.lay(0, 1, 1);
            x.read(0, 0, 0, 20);
        }
    }
}
