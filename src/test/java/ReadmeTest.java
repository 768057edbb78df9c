import java.io.IOException;
import java.lang.reflect.Method;
import java.lang.reflect.Modifier;
import java.nio.file.DirectoryStream;
import java.nio.file.Files;
import java.nio.file.Path;

/** README.md says how to use the class and how to run its tests: that what it says is so. */
public final class ReadmeTest {
  private static final Path TESTS = Path.of("src/test/java");
  private static final Checks CHECKS = new Checks();

  public static void main(String[] args) throws IOException {
    String readme = Files.readString(Path.of("README.md"));
    CHECKS.due("the example", example(), 42);
    lookForTheExample(readme);
    lookForCalls(readme);
    lookForTests(readme);
    CHECKS.end();
  }

  private static int example() {
    LeasedBuilds farm = new LeasedBuilds(2, 8);  // two workers, leases of 8 ticks
    int a = farm.file(20);
    int b = farm.file(22);
    int sum = farm.action(0x1L, a, b);           // instruction 1, then END: x + y
    while (!farm.known(sum)) {
      farm.tick();
      while (farm.flying() > 0) {
        farm.deliver(0, -1);                     // or lose(0), spoil(0), a cut, a crash
      }
    }
    int answer = farm.content(sum);              // 42
    return answer;
  }

  /** So that the example that is run here is the one that is read there. */
  private static void lookForTheExample(String readme) throws IOException {
    String here = Files.readString(TESTS.resolve("ReadmeTest.java"));
    int begin = readme.indexOf("```java\n") + "```java\n".length();
    int end = readme.indexOf("```", begin);
    String example = readme.substring(begin, end).indent(4);
    CHECKS.due("README's example stands here", here.contains(example), true);
  }

  private static void lookForCalls(String readme) {
    for (Method m : LeasedBuilds.class.getDeclaredMethods()) {
      if (Modifier.isPublic(m.getModifiers())) {
        boolean named = readme.contains("`" + m.getName() + "`") || readme.contains("`" + m.getName() + "(");
        CHECKS.due("README names " + m.getName(), named, true);
      }
    }
  }

  private static void lookForTests(String readme) throws IOException {
    try (DirectoryStream<Path> tests = Files.newDirectoryStream(TESTS, "*Test.java")) {
      for (Path test : tests) {
        String name = test.getFileName().toString().replace(".java", "");
        CHECKS.due("README names " + name, readme.contains("`" + name + "`"), true);
      }
    }
  }
}
