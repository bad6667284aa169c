import java.lang.reflect.Constructor;
import java.lang.reflect.Field;
import java.lang.reflect.Method;
import java.lang.reflect.Modifier;
import java.nio.file.Files;
import java.nio.file.Path;
import java.util.ArrayList;
import java.util.Arrays;
import java.util.List;
import java.util.Set;
import java.util.TreeSet;
import java.util.regex.Matcher;
import java.util.regex.Pattern;

/** The rules of LANGUAGE.md that can be seen in the text of the class or in its face. Runs in the project's folder. */
public final class LanguageTest {
    private static final String FACE = "feed/1 land/0 person/2 put/3 set/2 give/3 evening/0 day/0 gives/1 after/2 all/1 enough/2 "
        + "richest/1 lost/1 grows/1 rest/0 most/2 choice/3 gap/2 feast/3 begins/0 helps/0 byLaw/3 byBack/3 leastLaw/2 row/1 "
        + "found/1 judge/1 told/0 seeds/2 image/0 restore/0 count/1";
    private static final String[] REFUSED = {"\\bthrow\\b", "\\bthrows\\b", "\\btry\\b", "\\bcatch\\b", "\\bfinally\\b", "\\bsynchronized\\b",
        "\\bassert\\b", "->", "::", "\\bstatic\\s*\\{", "\\bprotected\\b", "\\bpackage\\b", "\\bimport\\b", "\\bvar\\b", "\\bthrow\\b",
        "Exact\\b", "\\bhashCode\\b", "\\btoString\\b", "\\bequals\\b", "\"", "\\bdouble\\b", "\\bfloat\\b", "\\bnull\\b", "\\[\\]\\[\\]",
        "\\bSystem\\.(?!arraycopy)", "\\bMath\\.(?!max|min)", "\\bInteger\\.(?!bitCount)", "\\b(Arrays|List|ArrayList|Thread|Random)\\b"};

    private static int passed = 0;
    private static int failed = 0;

    private static void rule(boolean kept, String what) {
        if (kept) {
            passed++;
        } else {
            failed++;
            System.out.println("not kept: " + what);
        }
    }

    public static void main(String[] args) throws Exception {
        String text = Files.readString(Path.of("src/main/java/GaveTheDayBefore.java"));
        String code = text.replaceAll("(?s)/\\*.*?\\*/", "").replaceAll("//[^\n]*", "");
        for (String refused : REFUSED) rule(!Pattern.compile(refused).matcher(code).find(), "no " + refused);
        rule(text.chars().allMatch(c -> c < 128), "signs below 128");
        face();
        faceOfTheDocument();
        nested();
        methodsAreShort(code);
        rowsAreMadeInConstructors(code);
        System.out.println(passed + " passed, " + failed + " failed");
        if (failed != 0) System.exit(1);
    }

    private static void face() {
        Class<?> c = GaveTheDayBefore.class;
        rule(Modifier.isPublic(c.getModifiers()) && Modifier.isFinal(c.getModifiers()), "a public final class");
        Set<String> open = new TreeSet<>();
        for (Method m : c.getDeclaredMethods()) {
            if (Modifier.isPrivate(m.getModifiers())) continue;
            open.add(m.getName() + "/" + m.getParameterCount());
            rule(Modifier.isPublic(m.getModifiers()) && m.getReturnType() == int.class, m.getName() + " is public and answers an int");
            rule(Arrays.stream(m.getParameterTypes()).allMatch(t -> t == int.class), m.getName() + " takes ints");
        }
        rule(open.equals(new TreeSet<>(Arrays.asList(FACE.split(" ")))), "the face: " + open);
        for (Field f : c.getDeclaredFields()) rule(Modifier.isPrivate(f.getModifiers()), "the field " + f.getName() + " is private");
        Constructor<?>[] makers = c.getDeclaredConstructors();
        rule(makers.length == 1 && Modifier.isPublic(makers[0].getModifiers()) && makers[0].getParameterCount() == 0, "one public constructor");
    }

    /** The face as ../shared/DOC.md tells it, so that FACE above can't drift away from it. */
    private static void faceOfTheDocument() throws Exception {
        Path path = Path.of("../shared/DOC.md");
        if (!Files.exists(path)) {
            System.out.println("no " + path + ": the face is not looked up");
            return;
        }
        Set<String> told = new TreeSet<>();
        for (Matcher m = Pattern.compile("(?m)^ +public int (\\w+)\\(([^)]*)\\);$").matcher(Files.readString(path)); m.find();) {
            told.add(m.group(1) + "/" + (m.group(2).isEmpty() ? 0 : m.group(2).split(",").length));
        }
        rule(told.equals(new TreeSet<>(Arrays.asList(FACE.split(" ")))), "the document's face: " + told);
    }

    private static void nested() {
        List<Class<?>> classes = new ArrayList<>(Arrays.asList(GaveTheDayBefore.class.getDeclaredClasses()));
        rule(classes.size() < 12, "some twelve classes");
        for (Class<?> c : classes) rule(Modifier.isStatic(c.getModifiers()) && !Modifier.isPublic(c.getModifiers()), c.getName() + " is static and not public");
        classes.add(GaveTheDayBefore.class);
        for (Class<?> c : classes) {
            int fields = 0;
            for (Field f : c.getDeclaredFields()) {
                boolean fixed = Modifier.isStatic(f.getModifiers());
                if (!fixed) fields++;
                rule(!fixed || Modifier.isFinal(f.getModifiers()), "the static field " + f.getName() + " is final");
            }
            rule(fields <= 20, "some twenty fields in " + c.getName());
            for (Method m : c.getDeclaredMethods()) {
                rule(m.getParameterCount() <= 7, m.getName() + " takes seven at most");
                boolean ofFace = (" " + FACE).contains(" " + m.getName() + "/");
                rule(!ofFace || Modifier.isPublic(m.getModifiers()), "no private method " + m.getName());
            }
        }
    }

    private static void methodsAreShort(String code) {
        Matcher m = Pattern.compile("(?m)^( +)(?:public|private)[^;=]*\\{$").matcher(code);
        while (m.find()) {
            if (m.group().contains(" class ")) continue;
            int end = code.indexOf("\n" + m.group(1) + "}", m.start());
            long lines = code.substring(m.start(), Math.max(m.start(), end)).lines().count();
            rule(end > 0 && lines <= 60, "short: " + m.group().trim());
        }
    }

    /** All calls of a run live in one room, so no call makes anything. */
    private static void rowsAreMadeInConstructors(String code) {
        for (String line : code.split("\n")) {
            if (!line.contains("new ")) continue;
            boolean field = line.trim().startsWith("private final ");
            rule(field || line.trim().equals("level[i] = new Village();"), "made outside constructors: " + line.trim());
        }
    }
}
