import java.io.IOException;
import java.nio.file.Files;
import java.nio.file.Path;
import java.util.ArrayList;
import java.util.Comparator;
import java.util.List;
import java.util.Set;
import java.util.TreeSet;
import java.util.concurrent.TimeUnit;
import java.util.regex.Matcher;
import java.util.regex.Pattern;
import java.util.stream.Stream;

/** What README.md shows works as it stands: its example, its commands, its list of tests. */
public final class ReadmeTest {
  private static final Due due = new Due("ReadmeTest");
  private static final Path README = Path.of("README.md");
  private static final Path TESTS = Path.of("src/test/java");
  private static final Path CI = Path.of(".ci/run");
  private static final int MOST_SECONDS = 600;

  public static void main(String[] args) throws Exception {
    String readme = Files.readString(README);
    List<String> commands = blocks(readme, "");
    List<String> programs = blocks(readme, "java");
    List<String> prints = blocks(readme, "text");
    due.is("programs", programs.size(), 1);
    due.is("what they print", prints.size(), 1);
    due.is("blocks of commands", commands.size(), 3);
    table(readme);
    Path room = Files.createTempDirectory("readme");
    try {
      Path checkout = checkoutIn(room);
      Files.writeString(checkout.resolve("Example.java"), programs.get(0));
      example(checkout, commands.get(0), prints.get(0));
      tests(checkout, commands);
    } finally {
      clear(room);
    }
    due.close();
  }

  private static List<String> blocks(String readme, String language) {
    List<String> blocks = new ArrayList<>();
    Matcher m = Pattern.compile("^```(\\w*)\n(.*?)^```$", Pattern.MULTILINE | Pattern.DOTALL).matcher(readme);
    while (m.find()) {
      if (m.group(1).equals(language)) {
        blocks.add(m.group(2));
      }
    }
    return blocks;
  }

  /** The table has a row for each test that .ci/run runs, and for no other. */
  private static void table(String readme) throws IOException {
    Set<String> told = new TreeSet<>();
    Matcher m = Pattern.compile("^\\| (\\w+Test) \\|", Pattern.MULTILINE).matcher(readme);
    while (m.find()) {
      told.add(m.group(1) + ".java");
    }
    Set<String> there = new TreeSet<>();
    try (Stream<Path> files = Files.list(TESTS)) {
      files.map(file -> file.getFileName().toString()).filter(name -> name.endsWith("Test.java"))
          .forEach(there::add);
    }
    due.is("tests: " + told + " / " + there, told.equals(there) ? 1 : 0, 1);
  }

  /** A copy, so that the commands write nothing into the checkout. */
  private static Path checkoutIn(Path room) throws IOException {
    Path checkout = room.resolve("checkout");
    try (Stream<Path> files = Files.walk(Path.of("src"))) {
      for (Path file : files.toList()) {
        Path copy = checkout.resolve(file);
        Files.createDirectories(copy.getParent());
        Files.copy(file, copy);
      }
    }
    Files.copy(README, checkout.resolve(README));
    Files.createSymbolicLink(room.resolve("shared"), Path.of("../shared").toRealPath());
    return checkout;
  }

  private static void example(Path checkout, String commands, String prints) throws Exception {
    Path out = checkout.resolve("example.txt");
    due.is("the example's commands", run(checkout, commands, out), 0);
    String printed = Files.readString(out);
    due.is("the example prints\n" + printed, printed.equals(prints) ? 1 : 0, 1);
  }

  /** .ci/run itself is what runs this test: to be there is enough. */
  private static void tests(Path checkout, List<String> commands) throws Exception {
    due.is("the command of all tests", commands.get(1).equals(CI + "\n") ? 1 : 0, 1);
    due.is("it can be run", Files.isExecutable(CI) ? 1 : 0, 1);
    Path out = checkout.resolve("tests.txt");
    int code = run(checkout, commands.get(2), out);
    due.is("the commands of single tests" + (code == 0 ? "" : "\n" + Files.readString(out)), code, 0);
  }

  private static int run(Path folder, String commands, Path out) throws Exception {
    Process process = new ProcessBuilder("bash", "-e", "-c", commands).directory(folder.toFile())
        .redirectErrorStream(true).redirectOutput(out.toFile()).start();
    if (!process.waitFor(MOST_SECONDS, TimeUnit.SECONDS)) {
      process.destroyForcibly();
      return -1;
    }
    return process.exitValue();
  }

  private static void clear(Path room) throws IOException {
    try (Stream<Path> files = Files.walk(room)) {
      for (Path file : files.sorted(Comparator.reverseOrder()).toList()) {
        Files.delete(file);
      }
    }
  }
}
