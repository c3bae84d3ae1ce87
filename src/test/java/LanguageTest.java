import java.io.IOException;
import java.nio.file.Files;
import java.nio.file.Path;
import java.util.regex.Matcher;
import java.util.regex.Pattern;

/** What LANGUAGE.md rules out and a look at the source can find. Runs in the project's folder. */
public final class LanguageTest {
    private static final String[] NEVER = {
        "\\bthrow\\b", "\\bthrows\\b", "\\btry\\b", "\\bcatch\\b", "\\bsynchronized\\b", "\\bassert\\b", "->", "::",
        "\\bimport\\b", "\\bpackage\\b", "Exact\\b", "\\bthis\\s*\\)", "\\bprotected\\b", "\\bvolatile\\b", "\\bnative\\b",
        "\\bThread\\b", "\\bRandom\\b", "\\bSystem\\.(?!arraycopy\\b)", "\\bequals\\b", "\\bhashCode\\b", "\\btoString\\b",
        "\\bdouble\\b", "\\bfloat\\b", "\\bObject\\b", "\\bstatic\\s*\\{", "\"\\s*\\+", "\\+\\s*\"",
        "\\b(Integer|Long)\\.[A-Z]", "\\bnew int\\[[^\\]]*\\]\\["};

    public static void main(String[] args) throws IOException {
        Checks checks = new Checks("LanguageTest");
        String source = Files.readString(Path.of("src/main/java/AlarmsOfFondness.java"));
        for (int i = 0; i < source.length(); i++) {
            char c = source.charAt(i);
            if (c > 126 || c < 32 && c != '\n') {
                checks.due("a strange sign at " + i, c, ' ');
            }
        }
        String code = withoutComments(source);
        for (String form : NEVER) {
            Matcher m = Pattern.compile(form).matcher(code);
            checks.holds("no " + form, !m.find());
        }
        Matcher statics = Pattern.compile("\\bstatic (?!final )(\\w|\\[|\\])+ \\w+\\s*[=;]").matcher(code);
        checks.holds("static fields are final", !statics.find());
        methods(checks, code);
        checks.holds("some twelve classes at most", many("\\b(class|record|enum|interface) [A-Z]", code) <= 12);
        checks.end();
    }

    private static String withoutComments(String source) {
        return source.replaceAll("(?s)/\\*.*?\\*/", "").replaceAll("//[^\n]*", "");
    }

    private static int many(String form, String code) {
        Matcher m = Pattern.compile(form).matcher(code);
        int n = 0;
        while (m.find()) {
            n++;
        }
        return n;
    }

    private static void methods(Checks checks, String code) {
        Matcher m = Pattern.compile("\n( +)[\\w\\[\\] ]*\\b(\\w+)\\(([^()]*)\\) \\{\n").matcher(code);
        int found = 0;
        while (m.find()) {
            int end = code.indexOf("\n" + m.group(1) + "}", m.end());
            String body = code.substring(m.end(), Math.max(m.end(), end));
            checks.holds(m.group(2) + " is some sixty lines at most", body.split("\n").length <= 60);
            checks.holds(m.group(2) + " takes seven at most", m.group(3).split(",").length <= 7);
            found++;
        }
        checks.holds("methods were found", found > 60);
    }
}
