import java.io.IOException;
import java.nio.file.Files;
import java.nio.file.Path;
import java.util.ArrayList;
import java.util.List;
import java.util.regex.Matcher;
import java.util.regex.Pattern;

/** The rules of LANGUAGE.md that can be seen in the text of the program. */
public final class LanguageTest {
    private static final String FILE = "src/main/java/HammockReach.java";
    private static final Expect e = new Expect();

    public static void main(String[] args) throws IOException {
        String text = Files.readString(Path.of(FILE));
        String code = text.replaceAll("(?s)/\\*.*?\\*/", "").replaceAll("//[^\n]*", "");
        staysInTheLanguage(code);
        makesNothingInACall(code);
        showsOnlyTheFace();
        e.end();
    }

    private static void staysInTheLanguage(String code) {
        String[] none = {
            "\\b(throw|throws|try|catch|finally|synchronized|assert|native|transient|volatile)\\b",
            "\\b(import|package|protected)\\b", "->", "::", "\\b(equals|hashCode|toString)\\b",
            "[^\\x00-\\x7f]", "Exact\\b", "\\bObject\\b", "\\bstatic\\s*\\{",
        };
        for (String pattern : none) {
            e.is("times of " + pattern, count(code, pattern), 0);
        }
        e.is("static fields that are not final",
            count(code, "\\bstatic (int|long|boolean|char|byte|String)(\\[\\])* \\w+( =|;|,)"), 0);
        e.is("classes that are not static", count(code, "(?<!static final |public final )\\bclass \\w"), 0);
    }

    /** All calls of a run live in one room: whatever is made is made with the object. */
    private static void makesNothingInACall(String code) {
        int fields = count(code, "(?m)^ +(private )?final [\\w\\[\\]]+ \\w+ = new [^;]*;");
        int constructor = count(code, "(?m)^ {12}(rows|images)\\[\\w\\] = new \\w+\\(\\);");
        e.is("things made in a call", count(code, "\\bnew\\b") - fields - constructor, 0);
    }

    private static void showsOnlyTheFace() {
        List<String> seen = new ArrayList<>();
        for (java.lang.reflect.Method m : HammockReach.class.getDeclaredMethods()) {
            int mods = m.getModifiers();
            if (!java.lang.reflect.Modifier.isPrivate(mods)) {
                seen.add(m.getName());
            }
        }
        e.is("methods of the face", seen.size(), 33 - 1);
        for (java.lang.reflect.Method m : HammockReach.class.getDeclaredMethods()) {
            boolean hidden = java.lang.reflect.Modifier.isPrivate(m.getModifiers());
            e.is(m.getName() + " is private and bears a public name", hidden && seen.contains(m.getName()) ? 1 : 0, 0);
        }
        int open = 0;
        for (java.lang.reflect.Field f : HammockReach.class.getDeclaredFields()) {
            open += java.lang.reflect.Modifier.isPrivate(f.getModifiers()) ? 0 : 1;
        }
        e.is("constants of the face", open, 4);
    }

    private static int count(String code, String pattern) {
        Matcher m = Pattern.compile(pattern).matcher(code);
        int n = 0;
        while (m.find()) {
            n++;
        }
        return n;
    }
}
