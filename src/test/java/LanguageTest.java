import java.io.IOException;
import java.lang.reflect.Modifier;
import java.nio.file.Files;
import java.nio.file.Path;
import java.util.Set;
import java.util.TreeSet;
import java.util.regex.Matcher;
import java.util.regex.Pattern;

/** What can be read off of the rules of LANGUAGE.md: words that are ruled out, the face, names, sizes. */
public final class LanguageTest {
    private static final Due due = new Due("LanguageTest");

    public static void main(String[] args) throws IOException {
        String source = Files.readString(Path.of(args.length > 0 ? args[0] : "src/main/java/EvenBreaks.java"));
        String code = source.replaceAll("(?s)/\\*.*?\\*/", " ").replaceAll("//[^\n]*", " ");
        words(code);
        signs(source);
        face();
        names(code);
        library(code);
        methodLengths(code);
        due.close();
    }

    private static void words(String code) {
        String[] ruledOut = {
            "throw", "throws", "try", "catch", "finally", "synchronized", "assert", "volatile", "native", "package",
            "Exception", "Thread", "Random", "System.out", "System.exit", "Object", "hashCode", "toString", "import", "->", "::", "Exact"};
        for (String word : ruledOut) {
            String bounds = Character.isLetter(word.charAt(0)) ? "\\b" : "";
            String end = bounds.isEmpty() ? "" : "\\b";
            Matcher found = Pattern.compile((word.equals("Exact") ? "" : bounds) + Pattern.quote(word) + end).matcher(code);
            due.is("uses of " + word, found.find() ? 1 : 0, 0);
        }
    }

    private static void signs(String source) {
        due.is("signs beyond 126", source.chars().filter(sign -> sign > 126).count(), 0);
    }

    private static void face() {
        Set<String> methods = new TreeSet<>();
        for (var method : EvenBreaks.class.getDeclaredMethods()) {
            int is = method.getModifiers();
            if (Modifier.isPublic(is)) {
                methods.add(method.getName());
            }
            due.is(method.getName() + " is public or private", Modifier.isPublic(is) || Modifier.isPrivate(is) ? 1 : 0, 1);
        }
        due.is("public methods", methods.size(), 28 - 1);
        for (var method : EvenBreaks.class.getDeclaredMethods()) {
            boolean isHidden = Modifier.isPrivate(method.getModifiers());
            due.is(method.getName() + " is private and has a public one's name", isHidden && methods.contains(method.getName()) ? 1 : 0, 0);
            due.is(method.getName() + " takes at most seven", method.getParameterCount() <= 7 ? 1 : 0, 1);
        }
        for (var field : EvenBreaks.class.getDeclaredFields()) {
            int is = field.getModifiers();
            due.is(field.getName() + " is public or private", Modifier.isPublic(is) || Modifier.isPrivate(is) ? 1 : 0, 1);
            due.is(field.getName() + " is static and public, or not", Modifier.isPublic(is) && !Modifier.isStatic(is) ? 1 : 0, 0);
        }
        due.is("the class is public and final", EvenBreaks.class.getModifiers(), Modifier.PUBLIC | Modifier.FINAL);
        due.is("NONE", EvenBreaks.NONE, -1);
        due.is("UNKNOWN", EvenBreaks.UNKNOWN, -1000000001);
        due.is("OUTSIDE", EvenBreaks.OUTSIDE, -1000000002);
        due.is("NOT", EvenBreaks.NOT, -1000000003);
        due.is("FULL", EvenBreaks.FULL, -1000000004);
        for (var inside : EvenBreaks.class.getDeclaredClasses()) {
            due.is(inside.getName() + " is static", Modifier.isStatic(inside.getModifiers()) ? 1 : 0, 1);
            for (var method : inside.getDeclaredMethods()) {
                due.is(method.getName() + " has a public one's name", methods.contains(method.getName()) ? 1 : 0, 0);
                due.is(method.getName() + " takes at most seven", method.getParameterCount() <= 7 ? 1 : 0, 1);
            }
            due.is(inside.getName() + " has some twenty fields", inside.getDeclaredFields().length <= 20 ? 1 : 0, 1);
        }
        due.is("classes", EvenBreaks.class.getDeclaredClasses().length < 12 ? 1 : 0, 1);
    }

    private static void names(String code) {
        due.is("statics that are not final", Pattern.compile("static (?!final|class)[\\w\\[\\]]+ \\w+ *[=;]").matcher(code).find() ? 1 : 0, 0);
        due.is("static blocks", Pattern.compile("static *\\{").matcher(code).find() ? 1 : 0, 0);
    }

    /** Rule 4: of the library the class uses these alone, and would use others of the list only behind a look at it. */
    private static void library(String code) {
        Set<String> used = new TreeSet<>();
        Matcher found = Pattern.compile("\\b(Math|System|Integer|Long|Arrays|String|StringBuilder|List|ArrayList|Character|Boolean)\\b(\\.\\w+)?").matcher(code);
        while (found.find()) {
            used.add(found.group());
        }
        used.removeAll(Set.of("Math.min", "Math.max", "System.arraycopy"));
        due.isText("what else is used of the library", used.toString(), "[]");
    }

    /** Rule 11: "Methods stay short (some sixty lines)". A method's last line is a brace as far in as its first. */
    private static void methodLengths(String code) {
        Matcher method = Pattern.compile("(?ms)^( +)(?:public |private |static |final )*[\\w\\[\\]]+ ?\\w*\\([^)]*\\) \\{\\n(.*?)^\\1\\}").matcher(code);
        int methods = 0;
        while (method.find()) {
            methods++;
            due.is("a method of at most sixty lines: " + method.group().strip().lines().findFirst().orElse(""),
                method.group().lines().count() <= 60 ? 1 : 0, 1);
        }
        due.is("methods are found", methods > 80 ? 1 : 0, 1);
    }
}
