import java.io.IOException;
import java.lang.reflect.Field;
import java.lang.reflect.Method;
import java.lang.reflect.Modifier;
import java.nio.file.Files;
import java.nio.file.Path;
import java.util.ArrayList;
import java.util.List;
import java.util.Set;
import java.util.TreeSet;
import java.util.regex.Matcher;
import java.util.regex.Pattern;

/** What of ../shared/LANGUAGE.md can be seen by a look at the file and its classes. */
public final class LanguageTest {
    private static final String FACE = "about between blamed chance closed count days detour end fault feed fits flow "
        + "gap lamps lime mark meeting mouth narrow reach repair run seek sight span station table there tools unit "
        + "way ways when";
    private static int wrong = 0;

    private static void check(boolean holds, String what) {
        if (!holds) {
            wrong++;
            System.out.println("LanguageTest: " + what);
        }
    }

    private static void theFace() {
        Set<String> open = new TreeSet<>();
        for (Method m : TunnelBook.class.getDeclaredMethods()) {
            if (Modifier.isPrivate(m.getModifiers())) {
                continue;
            }
            check(Modifier.isPublic(m.getModifiers()), "rule 1: " + m.getName() + " is neither public nor private");
            check(open.add(m.getName()), "rule 1: " + m.getName() + " is there twice");
        }
        check(String.join(" ", open).equals(FACE), "rule 1: the face is " + open);
        for (Field f : TunnelBook.class.getDeclaredFields()) {
            boolean constant = f.getName().equals("NONE") || f.getName().equals("FREE");
            check(Modifier.isPublic(f.getModifiers()) == constant, "rule 1: " + f);
            check(constant || Modifier.isPrivate(f.getModifiers()), "rule 1: " + f);
        }
        check(Modifier.isFinal(TunnelBook.class.getModifiers()), "rule 1: the class is final");
    }

    private static void theClasses() {
        List<Class<?>> all = new ArrayList<>(List.of(TunnelBook.class.getDeclaredClasses()));
        for (Class<?> c : all) {
            check(Modifier.isStatic(c.getModifiers()), "rule 2: " + c + " isn't static");
            check(!Modifier.isPublic(c.getModifiers()), "rule 1: " + c + " is public");
        }
        all.add(TunnelBook.class);
        check(all.size() <= 12, "rule 11: " + all.size() + " classes");
        for (Class<?> c : all) {
            int fields = 0;
            for (Field f : c.getDeclaredFields()) {
                boolean isStatic = Modifier.isStatic(f.getModifiers());
                fields += isStatic ? 0 : 1;
                check(!isStatic || Modifier.isFinal(f.getModifiers()), "rule 5: " + f);
            }
            check(fields <= 20, "rule 11: " + c + " has " + fields + " fields");
            for (Method m : c.getDeclaredMethods()) {
                check(m.getParameterCount() <= 7, "rule 11: " + m);
                boolean named = Set.of(FACE.split(" ")).contains(m.getName());
                check(!named || c == TunnelBook.class && Modifier.isPublic(m.getModifiers()), "rule 1: name of " + m);
                check(!Set.of("equals", "hashCode", "toString").contains(m.getName()), "rule 6: " + m);
            }
        }
    }

    private static void theText(String source) {
        String code = source.replaceAll("(?s)/\\*.*?\\*/", "").replaceAll("//[^\n]*", "");
        String[] banned = {"\\bthrow\\b", "\\btry\\b", "\\bcatch\\b", "\\bassert\\b", "\\bsynchronized\\b",
            "\\bimport\\b", "\\bpackage\\b", "->", "::", "\\bvar\\b", "\\bdouble\\b", "\\bfloat\\b", "\\bSystem\\.",
            "\\bThread\\b", "Exact\\b", "\\bprotected\\b", "\\bObject\\b", "\\bstatic \\{"};
        for (String pattern : banned) {
            Matcher found = Pattern.compile(pattern).matcher(code);
            check(!found.find(), "it holds " + pattern);
        }
        for (int i = 0; i < source.length(); i++) {
            check(source.charAt(i) >= 1 && source.charAt(i) <= 127, "rule 4: a sign beyond 127");
        }
    }

    private static void theMethods(String source) {
        String[] lines = source.split("\n");
        for (int i = 0; i < lines.length; i++) {
            Matcher head = Pattern.compile("^( {4}| {8})[a-zA-Z][^=;]*\\) \\{$").matcher(lines[i]);
            if (head.find()) {
                int end = i;
                while (!lines[end].equals(head.group(1) + "}")) {
                    end++;
                }
                check(end - i < 60, "rule 11: a long method, " + lines[i].trim());
            }
        }
    }

    public static void main(String[] args) throws IOException {
        String source = Files.readString(Path.of("src/main/java/TunnelBook.java"));
        theFace();
        theClasses();
        theText(source);
        theMethods(source);
        System.out.println("LanguageTest: " + (wrong == 0 ? "all rules kept" : wrong + " broken"));
        System.exit(wrong == 0 ? 0 : 1);
    }
}
