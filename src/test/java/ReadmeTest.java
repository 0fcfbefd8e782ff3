import java.io.IOException;
import java.lang.reflect.Method;
import java.lang.reflect.Modifier;
import java.nio.file.Files;
import java.nio.file.Path;
import java.util.ArrayList;
import java.util.List;
import java.util.TreeSet;
import java.util.regex.Matcher;
import java.util.regex.Pattern;
import java.util.stream.Stream;

/** README.md tells what is so: the answers of its example, every call of the class, and every test. */
public final class ReadmeTest {
  private static final Check CHECK = new Check("ReadmeTest");
  private static final Pattern TEXT = Pattern.compile("String text = \"([^\"]*)\";");
  private static final Pattern ANSWER = Pattern.compile("court\\.(\\w+)\\(([^)]*)\\); *// (-?\\d+): .*");
  private static final Pattern TEST_ROW = Pattern.compile("\\| `(\\w+)` \\|.*");
  private static final String TESTS = "src/test/java";

  public static void main(String[] args) throws IOException, ReflectiveOperationException {
    List<String> lines = Files.readAllLines(Path.of("README.md"));
    example(lines);
    calls(String.join("\n", lines));
    commands(String.join("\n", lines));
    tests(lines.subList(lines.indexOf("## Tests"), lines.size()));
    CHECK.end();
  }

  private static void example(List<String> lines) throws ReflectiveOperationException {
    ShadowCourt court = new ShadowCourt();
    int answers = 0;
    List<String> block = lines.subList(lines.indexOf("```java") + 1, lines.indexOf("```"));
    for (String line : block) {
      Matcher text = TEXT.matcher(line);
      if (text.matches()) Courts.type(court, text.group(1));
      Matcher answer = ANSWER.matcher(line);
      if (!answer.matches()) continue;
      CHECK.same(line, answerOf(court, answer.group(1), answer.group(2)), Long.parseLong(answer.group(3)));
      answers++;
    }
    CHECK.same("all lines of the example but three tell an answer", answers, block.size() - 3);
  }

  private static long answerOf(ShadowCourt court, String name, String told) throws ReflectiveOperationException {
    List<Object> given = new ArrayList<>();
    if (!told.isEmpty()) {
      for (String one : told.split(", ")) {
        if (one.equals("true") || one.equals("false")) given.add(Boolean.valueOf(one));
        else given.add(Integer.valueOf(one));
      }
    }
    for (Method method : ShadowCourt.class.getMethods()) {
      if (method.getName().equals(name)) return ((Number) method.invoke(court, given.toArray())).longValue();
    }
    throw new NoSuchMethodException(name);
  }

  private static void calls(String page) {
    for (Method method : ShadowCourt.class.getDeclaredMethods()) {
      if (!Modifier.isPublic(method.getModifiers())) continue;
      Matcher call = Pattern.compile("`" + method.getName() + "\\(([a-z, ]*)\\)`").matcher(page);
      int told = -1;
      if (call.find()) told = call.group(1).isEmpty() ? 0 : call.group(1).split(", ").length;
      CHECK.same("arguments of " + method.getName() + " (-1: it is not told of)", told, method.getParameterCount());
    }
  }

  private static void commands(String page) throws IOException {
    CHECK.isTrue(".ci/run is told of", page.contains("\n    .ci/run\n"));
    CHECK.isTrue(".ci/run can be started", Files.isExecutable(Path.of(".ci/run")));
    String script = Files.readString(Path.of(".ci/run"));
    for (String each : new String[] {"../shared/tests", "src/main/java/ShadowCourt.java", TESTS + "/*.java"}) {
      CHECK.isTrue(each + " is told of", page.contains(each));
      CHECK.isTrue(each + " is in .ci/run", script.contains(each));
    }
  }

  private static void tests(List<String> lines) throws IOException {
    TreeSet<String> told = new TreeSet<>();
    for (String line : lines) {
      Matcher row = TEST_ROW.matcher(line);
      if (row.matches()) told.add(row.group(1));
    }
    TreeSet<String> are = new TreeSet<>();
    try (Stream<Path> files = Files.list(Path.of(TESTS))) {
      files.map(file -> file.getFileName().toString()).filter(name -> name.endsWith("Test.java"))
          .forEach(name -> are.add(name.replace(".java", "")));
    }
    CHECK.isTrue("the table tells of every test, and of no other: " + told + ", there are " + are, told.equals(are));
  }
}
