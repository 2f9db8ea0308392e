import java.io.IOException;
import java.io.UncheckedIOException;
import java.lang.reflect.Method;
import java.lang.reflect.Modifier;
import java.nio.file.Files;
import java.nio.file.Path;
import java.util.ArrayList;
import java.util.Arrays;
import java.util.Collections;
import java.util.Comparator;
import java.util.List;
import java.util.Map;
import java.util.TreeMap;
import java.util.stream.Collectors;
import java.util.stream.Stream;

/** README.md: what it says to do is done in a copy of the project; its tables leave nothing out. */
public final class ReadmeTest {
  private static final Path TESTS = Path.of("src", "test", "java");
  private static final Path SHARED = Path.of("..", "shared");
  private static final String RUN = ".ci/run\n";

  private static final Due due = new Due();

  public static void main(String[] args) throws IOException, InterruptedException {
    Readme readme = Readme.read();
    calls(readme);
    errors(readme);
    tests(readme);
    Path place = Files.createTempDirectory("readme");
    try {
      commands(readme, place);
    } finally {
      remove(place);
    }
    due.end();
  }

  /** Every call has its row, with as many numbers as it takes. */
  private static void calls(Readme readme) {
    List<String> face = new ArrayList<>();
    for (Method method : LoanedRound.class.getDeclaredMethods()) {
      if (Modifier.isPublic(method.getModifiers())) {
        face.add(method.getName() + " " + method.getParameterCount());
      }
    }
    List<String> told = new ArrayList<>();
    for (String[] row : readme.table("call")) {
      String call = row[0];
      String numbers = call.substring(call.indexOf('(') + 1, call.indexOf(')'));
      int taken = numbers.isEmpty() ? 0 : numbers.split(", ").length;
      told.add(call.substring(1, call.indexOf('(')) + " " + taken);
    }
    Collections.sort(face);
    Collections.sort(told);
    same("calls", told, face);
  }

  private static void errors(Readme readme) {
    Map<String, Integer> numbers = new TreeMap<>();
    String[] names = {"BEYOND", "NONE", "STATE", "FULL", "KIND", "PARTED"};
    for (int k = 1; k <= names.length; k++) {
      numbers.put(names[k - 1], -1000000000 - k);
    }
    same("ERRORS", readme.numbersOfErrors(), numbers);
  }

  private static void tests(Readme readme) throws IOException {
    List<String> told = new ArrayList<>();
    for (String[] row : readme.table("file")) {
      told.addAll(Arrays.asList(row[0].replace("`", "").split(", ")));
    }
    Collections.sort(told);
    try (Stream<Path> files = Files.list(TESTS)) {
      same("tests", told, files.map(file -> file.getFileName().toString())
          .filter(name -> name.endsWith("Test.java"))
          .map(name -> name.replace(".java", ""))
          .sorted().collect(Collectors.toList()));
    }
  }

  private static void commands(Readme readme, Path place)
      throws IOException, InterruptedException {
    Path project = place.resolve("main");
    copy(Path.of("src"), project.resolve("src"));
    copy(SHARED, place.resolve("shared"));
    Files.writeString(project.resolve("Yours.java"), readme.blocks("java").get(0));
    List<String> commands = readme.blocks("sh");
    same("what Yours prints", run(commands.get(0), project), readme.blocks("text").get(0));
    for (String command : commands.subList(1, commands.size())) {
      // .ci/run would run this test again, and so on.
      if (!command.equals(RUN)) {
        run(command, project);
      }
    }
    due.equal(".ci/run is told of", commands.contains(RUN) ? 1 : 0, 1);
    due.equal(".ci/run can be run", Files.isExecutable(Path.of(".ci", "run")) ? 1 : 0, 1);
  }

  /** What the commands print, all of which have to end with exit code 0. */
  private static String run(String commands, Path folder)
      throws IOException, InterruptedException {
    Process process = new ProcessBuilder("bash", "-e", "-c", commands)
        .directory(folder.toFile()).redirectErrorStream(true).start();
    String printed = new String(process.getInputStream().readAllBytes());
    int code = process.waitFor();
    if (code != 0) {
      System.out.print(printed);
    }
    due.equal("exit code of " + commands.strip(), code, 0);
    return printed;
  }

  private static void copy(Path from, Path to) throws IOException {
    try (Stream<Path> all = Files.walk(from)) {
      all.filter(Files::isRegularFile).forEach(file -> {
        Path copy = to.resolve(from.relativize(file));
        try {
          Files.createDirectories(copy.getParent());
          Files.write(copy, Files.readAllBytes(file));
        } catch (IOException e) {
          throw new UncheckedIOException(e);
        }
      });
    }
  }

  private static void remove(Path folder) throws IOException {
    try (Stream<Path> all = Files.walk(folder)) {
      for (Path one : all.sorted(Comparator.reverseOrder()).collect(Collectors.toList())) {
        Files.delete(one);
      }
    }
  }

  private static void same(String what, Object told, Object want) {
    if (!told.equals(want)) {
      System.out.println("README.md has " + told + ", due is " + want);
    }
    due.equal(what, told.equals(want) ? 1 : 0, 1);
  }
}
