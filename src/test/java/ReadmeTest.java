import java.io.IOException;
import java.lang.reflect.Method;
import java.lang.reflect.Modifier;
import java.net.URL;
import java.net.URLClassLoader;
import java.nio.file.DirectoryStream;
import java.nio.file.Files;
import java.nio.file.Path;
import java.util.ArrayList;
import java.util.Comparator;
import java.util.HashSet;
import java.util.List;
import java.util.Set;
import java.util.regex.Matcher;
import java.util.regex.Pattern;
import java.util.stream.Stream;
import javax.tools.ToolProvider;

/**
 * The Java of README.md is compiled as it stands there, and each of its calls answers what the
 * comment behind it says, up to a colon. To be run in the directory of README.md, as .ci/run does.
 */
public final class ReadmeTest {
  private static final String PROGRAM = "ReadmeProgram";
  private static final Pattern ANSWERED = Pattern.compile("(prover\\..*\\));\\s*// ([^:]*)(:.*)?");

  // The program that is made of README.md calls back here.
  public static int wrong;
  public static int asked;
  private static final Set<String> SHOWN = new HashSet<>();

  private ReadmeTest() {}

  public static void main(String[] args) throws Exception {
    String readme = Files.readString(Path.of("README.md"));
    Path place = Files.createTempDirectory("readme");
    try {
      run(program(readme), place);
    } finally {
      try (Stream<Path> files = Files.walk(place)) {
        for (Path file : files.sorted(Comparator.reverseOrder()).toList()) {
          Files.delete(file);
        }
      }
    }
    lookForCalls();
    lookForTests(readme);
    System.out.println("ReadmeTest: " + asked + " answers, " + wrong + " not as due");
    if (wrong != 0 || asked == 0) {
      System.exit(1);
    }
  }

  public static void due(String call, String got, String want) {
    asked++;
    SHOWN.add(call.substring(call.indexOf('.') + 1, call.indexOf('(')));
    if (!got.equals(want)) {
      fail(call + " answered " + got + ", README.md says " + want);
    }
  }

  private static void fail(String what) {
    wrong++;
    System.out.println(what);
  }

  /** All blocks of Java in the order of the page: methods go into the class, the rest into one method. */
  private static String program(String readme) {
    StringBuilder methods = new StringBuilder();
    StringBuilder lines = new StringBuilder();
    String[] pieces = readme.split("(?m)^```");
    for (int i = 1; i < pieces.length; i += 2) {
      String block = pieces[i].substring(pieces[i].indexOf('\n') + 1);
      if (block.startsWith("static ")) {
        methods.append(block);
      } else {
        for (String line : block.split("\n")) {
          lines.append(checked(line)).append('\n');
        }
      }
    }
    return "public final class " + PROGRAM + " {\n" + methods
        + "public static void run() {\n" + lines + "}\n}\n";
  }

  private static String checked(String line) {
    Matcher answered = ANSWERED.matcher(line);
    if (!answered.matches()) {
      if (line.startsWith("prover.")) {
        fail("without an answer: " + line);
      }
      return line;
    }
    String call = answered.group(1);
    return "{ String got; try { got = \"\" + " + call + "; }"
        + " catch (RuntimeException e) { got = \"throws \" + e.getClass().getSimpleName(); }"
        + " ReadmeTest.due(\"" + call + "\", got, \"" + answered.group(2).strip() + "\"); }";
  }

  private static void run(String program, Path place) throws Exception {
    Path file = Files.writeString(place.resolve(PROGRAM + ".java"), program);
    int outcome = ToolProvider.getSystemJavaCompiler().run(null, null, null,
        "-cp", System.getProperty("java.class.path"), "-d", place.toString(), file.toString());
    if (outcome != 0) {
      fail("the Java of README.md does not compile");
      return;
    }
    URL[] places = {place.toUri().toURL()};
    try (URLClassLoader loader = new URLClassLoader(places, ReadmeTest.class.getClassLoader())) {
      loader.loadClass(PROGRAM).getMethod("run").invoke(null);
    }
  }

  private static void lookForCalls() {
    for (Method method : GroundProver.class.getDeclaredMethods()) {
      if (Modifier.isPublic(method.getModifiers()) && !SHOWN.contains(method.getName())) {
        fail("README.md does not show what " + method.getName() + " answers");
      }
    }
  }

  private static void lookForTests(String readme) throws IOException {
    List<String> names = new ArrayList<>();
    try (DirectoryStream<Path> files = Files.newDirectoryStream(Path.of("src/test/java"), "*Test.java")) {
      for (Path file : files) {
        names.add(file.getFileName().toString().replace(".java", ""));
      }
    }
    for (String name : names) {
      if (!readme.contains("`" + name + "`")) {
        fail("README.md does not name " + name);
      }
    }
  }
}
