import java.nio.file.Files;
import java.nio.file.Path;
import java.util.regex.Matcher;
import java.util.regex.Pattern;

/** What of ../shared/LANGUAGE.md can be seen in the source by its words alone. Run from the project's own folder. */
public final class LanguageTest {
  private static final String[] NEVER = {"\\bthrows?\\b", "\\btry\\b", "\\bcatch\\b", "\\bsynchronized\\b", "\\bassert\\b",
    "\\bpackage\\b", "\\bprotected\\b", "\\bimport\\b", "->", "::", "\\bequals\\s*\\(\\s*Object", "\\bhashCode\\b", "\\btoString\\b",
    "Exact\\b", "\\bSystem\\.(?!arraycopy\\b)", "\\bInteger\\.(?!bitCount\\b)", "\\bMath\\.(?!max\\b|min\\b)", "\\bvar\\b",
    "\\bstatic\\s*\\{", "\\bwhile\\s*\\(\\s*true", "\\bfor\\s*\\(\\s*;\\s*;", "\"\\s*\\+", "\\+\\s*\""};

  public static void main(String[] args) throws Exception {
    String source = Files.readString(Path.of("src/main/java/Encores.java"));
    String code = source.replaceAll("(?s)/\\*.*?\\*/", "").replaceAll("//[^\n]*", "");
    int wrong = 0;
    for (String never : NEVER) {
      Matcher m = Pattern.compile(never).matcher(code);
      if (m.find()) {
        wrong++;
        System.out.println("stands in the source: " + m.group() + " (" + never + ")");
      }
    }
    for (char c : source.toCharArray()) {
      if (c > 126) {
        wrong++;
        System.out.println("a sign that is not plain: " + (int) c);
      }
    }
    wrong += longMethods(code);
    System.out.println(wrong == 0 ? "nothing stands in the source that may not" : wrong + " wrong");
    if (wrong > 0) System.exit(1);
  }

  private static int longMethods(String code) {
    int wrong = 0;
    Matcher m = Pattern.compile("(?ms)^( {2}| {4})(?:[\\w\\[\\]]+ )*\\w+\\([^)]*\\) \\{$.*?^\\1\\}$").matcher(code);
    int methods = 0;
    while (m.find()) {
      methods++;
      long lines = m.group().lines().count();
      if (lines > 60) {
        wrong++;
        System.out.println("a method of " + lines + " lines: " + m.group().lines().findFirst().orElse(""));
      }
    }
    if (methods < 42) {
      wrong++;
      System.out.println("only " + methods + " methods were found");
    }
    return wrong;
  }
}
