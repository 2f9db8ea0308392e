import java.io.IOException;
import java.nio.file.Files;
import java.nio.file.Path;
import java.util.ArrayList;
import java.util.List;
import java.util.Map;
import java.util.Set;
import java.util.TreeMap;
import java.util.TreeSet;

/** What README.md says, in the parts that tests hold it to. */
final class Readme {
  private final List<String> lines;

  private Readme(List<String> lines) {
    this.lines = lines;
  }

  /** Tests run in the project's folder. */
  static Readme read() throws IOException {
    return new Readme(Files.readAllLines(Path.of("README.md")));
  }

  /** The blocks of a language, in order. */
  List<String> blocks(String language) {
    List<String> blocks = new ArrayList<>();
    StringBuilder block = null;
    for (String line : lines) {
      if (block == null && line.equals("```" + language)) {
        block = new StringBuilder();
      } else if (block != null && line.equals("```")) {
        blocks.add(block.toString());
        block = null;
      } else if (block != null) {
        block.append(line).append('\n');
      }
    }
    return blocks;
  }

  /** The rows of the table whose first cell at the head is this, cell by cell. */
  List<String[]> table(String first) {
    List<String[]> rows = new ArrayList<>();
    boolean inside = false;
    for (String line : lines) {
      inside = line.startsWith("| " + first + " |") || inside && line.startsWith("|");
      if (inside && !line.startsWith("| " + first + " |") && !line.startsWith("|---")) {
        rows.add(cells(line));
      }
    }
    return rows;
  }

  private static String[] cells(String row) {
    String[] cells = row.substring(1, row.lastIndexOf('|')).split("\\|", -1);
    for (int i = 0; i < cells.length; i++) {
      cells[i] = cells[i].strip();
    }
    return cells;
  }

  /** For each call the names of the ERRORS that it may answer. */
  Map<String, Set<String>> errorsOfCalls() {
    Map<String, Set<String>> errors = new TreeMap<>();
    for (String[] row : table("call")) {
      Set<String> names = new TreeSet<>(List.of(row[2].split(", ")));
      names.remove("");
      errors.put(row[0].substring(1, row[0].indexOf('(')), names);
    }
    return errors;
  }

  /** The number of each ERROR, by its name. */
  Map<String, Integer> numbersOfErrors() {
    Map<String, Integer> numbers = new TreeMap<>();
    for (String[] row : table("ERROR")) {
      numbers.put(row[0], Integer.parseInt(row[1]));
    }
    return numbers;
  }
}
