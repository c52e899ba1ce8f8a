import java.io.IOException;
import java.lang.reflect.Field;
import java.lang.reflect.Method;
import java.lang.reflect.Modifier;
import java.nio.file.Files;
import java.nio.file.Path;
import java.util.ArrayList;
import java.util.HashSet;
import java.util.List;
import java.util.Set;
import java.util.TreeSet;
import java.util.regex.Matcher;
import java.util.regex.Pattern;

/** The document's face, and those rules of LANGUAGE.md that a look at the class can ask. */
public final class LanguageTest {
    private static final List<String> FACE = List.of("int flat(int,int,int)", "int of(int,int)", "int as(int,int)",
        "int set(int,int)", "int turn(int,int)", "int hold(int,boolean)", "int window(int,boolean)",
        "int drift(int,int)", "int hours(int)", "int riser(int)", "int feed(int,int)", "int wipe()", "int rule()",
        "int plain()", "int share(int)", "int bill(int,int)", "int other(int,int)", "int meters(int)",
        "int felt(int,int)", "int even(int,int)", "int foretold(int,int)", "int few(int,int,int)",
        "int setback(int,int)", "int works(int,int,int)", "int complain(int,int)", "int complaint(int,int)",
        "int joined(int,int)", "int groups(int)", "int sheet(int,int,int)", "long write(int,int,long)",
        "int copy(int,int,int,int,int)", "int weather(int)", "int read(int)", "int image()", "int undo()",
        "int tear()", "int count(int)", "int status(int)");
    private static final List<String> NEVER = List.of("throw", "throws", "try", "catch", "finally", "synchronized",
        "assert", "import", "package", "protected", "native", "volatile", "transient", "yield", "->", "::", "@",
        "getClass", "hashCode", "toString", "Object", "System.out", "Exact", "Thread", "Random");

    public static void main(String[] args) throws IOException {
        face();
        classesInside();
        source(Files.readString(Path.of("src/main/java/WarmthShared.java")));
        Check.end();
    }

    private static void face() {
        Set<String> seen = new TreeSet<>();
        for (Method m : WarmthShared.class.getDeclaredMethods()) {
            if (Modifier.isPublic(m.getModifiers())) {
                String text = m.toGenericString();
                seen.add(text.replace("public ", "").replace("WarmthShared.", ""));
            } else if (!Modifier.isPrivate(m.getModifiers()) && !m.isSynthetic()) {
                Check.fail("rule 1: " + m + " is not private");
            }
        }
        if (!seen.equals(new TreeSet<>(FACE))) {
            Check.fail("rule 1: the face is " + seen);
        }
        for (Field f : WarmthShared.class.getDeclaredFields()) {
            if (!Modifier.isPrivate(f.getModifiers())) {
                Check.fail("rule 1: " + f + " is not private");
            }
        }
        Check.due("rule 1: constructors", WarmthShared.class.getConstructors().length, 1);
        if (!Modifier.isFinal(WarmthShared.class.getModifiers())) {
            Check.fail("rule 1: the class is not final");
        }
    }

    private static void classesInside() {
        List<Class<?>> all = new ArrayList<>(List.of(WarmthShared.class.getDeclaredClasses()));
        if (all.size() + 1 > 12) {
            Check.fail("rule 11: more than twelve classes");
        }
        Set<String> names = new HashSet<>();
        for (String call : FACE) {
            names.add(call.substring(call.indexOf(' ') + 1, call.indexOf('(')));
        }
        for (Class<?> c : all) {
            if (!Modifier.isStatic(c.getModifiers()) || Modifier.isPublic(c.getModifiers())) {
                Check.fail("rule 2: " + c + " is not static, or public");
            }
            for (Method m : c.getDeclaredMethods()) {
                if (names.contains(m.getName())) {
                    Check.fail("rule 1: " + m + " bears the name of a public one");
                }
            }
        }
        all.add(WarmthShared.class);
        for (Class<?> c : all) {
            int fields = 0;
            for (Field f : c.getDeclaredFields()) {
                fields += Modifier.isStatic(f.getModifiers()) ? 0 : 1;
                if (Modifier.isStatic(f.getModifiers()) && !Modifier.isFinal(f.getModifiers())) {
                    Check.fail("rule 5: " + f + " is not final");
                }
            }
            if (fields > 20) {
                Check.fail("rule 11: " + c + " has " + fields + " fields");
            }
            for (Method m : c.getDeclaredMethods()) {
                if (m.getParameterCount() > 7) {
                    Check.fail("rule 11: " + m + " takes more than seven parameters");
                }
            }
        }
    }

    private static void source(String source) {
        String code = source.replaceAll("(?s)/\\*.*?\\*/", " ").replaceAll("//[^\n]*", " ")
            .replaceAll("\"[^\"]*\"", "\"\"");
        for (String word : NEVER) {
            String edge = Character.isLetter(word.charAt(0)) ? "\\b" : "";
            if (Pattern.compile(edge + Pattern.quote(word) + edge).matcher(code).find()) {
                Check.fail("rules 2 to 6: the source has " + word);
            }
        }
        Matcher called = Pattern.compile("\\b(System|Arrays|Math|Integer|Long)\\.(\\w+)").matcher(code);
        Set<String> library = new TreeSet<>();
        while (called.find()) {
            library.add(called.group());
        }
        library.removeAll(Set.of("System.arraycopy", "Math.max", "Math.min", "Math.abs"));
        if (!library.isEmpty()) {
            Check.fail("rule 4: look whether the list has " + library);
        }
        methods(source.split("\n"));
    }

    /** A method begins with a line that ends in ") {" and isn't deeper than eight blanks; it ends at the like depth. */
    private static void methods(String[] lines) {
        for (int i = 0; i < lines.length; i++) {
            Matcher head = Pattern.compile("^( {4}| {8})(?!if|for|while|switch)\\S.*\\) \\{$").matcher(lines[i]);
            if (head.find()) {
                int end = i;
                while (end < lines.length && !lines[end].equals(head.group(1) + "}")) {
                    end++;
                }
                if (end - i > 60) {
                    Check.fail("rule 11: more than sixty lines: " + lines[i].trim());
                }
                callsItself(lines, i, end);
            }
        }
    }

    /** Rule 8 lets a method call itself if it is private static (or an interface's, and there is none). */
    private static void callsItself(String[] lines, int head, int end) {
        String name = lines[head].replaceFirst("\\(.*", "").replaceFirst(".*\\W", "");
        Pattern itself = Pattern.compile("(?<![.\\w])" + name + "\\(");
        for (int i = head + 1; i < end; i++) {
            if (itself.matcher(lines[i]).find() && !lines[head].contains("private static ")) {
                Check.fail("rule 8: " + name + " calls itself and is not private static");
            }
        }
    }
}
