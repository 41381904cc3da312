import java.io.File;
import java.nio.file.Files;
import java.nio.file.Path;
import java.util.regex.Matcher;
import java.util.regex.Pattern;

/** README.md tells how the class is used: its program prints what stands there, and no call is missing. */
public final class ReadmeTest {
  private static final Path PROGRAM = Path.of("src/main/java/Encores.java");

  private static int wrong;

  private static void fail(String what) {
    wrong++;
    System.out.println(what);
  }

  public static void main(String[] args) throws Exception {
    Watch.over("ReadmeTest");
    String readme = Files.readString(Path.of("README.md"));
    String due = block(readme, "text");
    String got = run(block(readme, "java"));
    if (!got.equals(due)) fail("README.md's program prints\n" + got + "and README.md says\n" + due);
    allCalls(readme, Files.readString(Path.of("../shared/DOC.md")));
    System.out.println(wrong == 0 ? "README.md tells what is" : wrong + " wrong");
    if (wrong > 0) System.exit(1);
  }

  /** The first block of a kind. */
  private static String block(String readme, String kind) {
    Matcher m = Pattern.compile("```" + kind + "\n(.*?)```\n", Pattern.DOTALL).matcher(readme);
    if (m.find()) return m.group(1);
    fail("no block of " + kind + " in README.md");
    return "";
  }

  /** What a program Evening prints that is compiled with the class alone. */
  private static String run(String evening) throws Exception {
    Path folder = Files.createTempDirectory("readme");
    Path source = folder.resolve("Evening.java");
    Files.writeString(source, evening);
    String told = call("javac", "-d", folder.toString(), PROGRAM.toString(), source.toString())
        + call("java", "-cp", folder.toString(), "Evening");
    File[] made = folder.toFile().listFiles();
    if (made != null) for (File f : made) Files.delete(f.toPath());
    Files.delete(folder);
    return told;
  }

  private static String call(String... command) throws Exception {
    Process process = new ProcessBuilder(command).redirectErrorStream(true).start();
    String told = new String(process.getInputStream().readAllBytes());
    if (process.waitFor() != 0) fail(command[0] + " failed");
    return told;
  }

  /** Each method of the document's face stands in README.md, with the names of what it takes. */
  private static void allCalls(String readme, String document) {
    Matcher m = Pattern.compile("    public (?:int|boolean) (\\w+)\\(([^)]*)\\);").matcher(document);
    int calls = 0;
    for (; m.find(); calls++) {
      String call = "| `" + m.group(1) + "(" + m.group(2).replaceAll("(int|boolean) ", "") + ")` |";
      if (!readme.contains(call)) fail("README.md does not tell " + call);
    }
    if (calls != 42) fail(calls + " calls in the document's face");
  }
}
