import java.io.IOException;
import java.lang.reflect.Constructor;
import java.lang.reflect.Field;
import java.lang.reflect.Method;
import java.lang.reflect.Modifier;
import java.nio.file.Files;
import java.nio.file.Path;
import java.util.ArrayList;
import java.util.Arrays;
import java.util.List;
import java.util.Set;
import java.util.TreeSet;

/** The public face of the class, and those rules of LANGUAGE.md that are easily looked after. */
public final class FaceTest {
  private static final String[] FACE = {
    "home(int)", "homeIs(int,int)", "become(int,int)", "as(int,int)", "past(int,int)",
    "goes(int)", "set(int,int)", "hears(int,int)", "feed(long,int)", "text(int)", "untell(int)",
    "law(int,int,int,int)", "days(int)", "loose(int)", "day(int)", "seed(int)", "then(int,int)",
    "soonest(int,int)", "startFor(int,int,int)", "swapFor(int,int)", "spare(int,int)",
    "odds(int,int,int,int)", "fits(int,int)", "voice(int,int,int)", "body(int)",
    "sheet(int,int,int)", "put(int,int,int)", "move(int,int,int,int,int)", "hearAll(int)",
    "judge(int)", "image()", "restore()", "tell(int)", "check()", "count(int)", "told(int)",
  };
  private static final Path SOURCE = Path.of("src", "main", "java", "LoanedRound.java");
  private static final Due due = new Due();

  public static void main(String[] args) throws IOException {
    face();
    classesInside();
    source();
    due.end();
  }

  private static void face() {
    Class<?> type = LoanedRound.class;
    Set<String> names = new TreeSet<>();
    Set<String> open = new TreeSet<>();
    for (Method method : type.getDeclaredMethods()) {
      if (!Modifier.isPrivate(method.getModifiers()) && !method.isSynthetic()) {
        open.add(signature(method));
        names.add(method.getName());
        holds(method + " is public", Modifier.isPublic(method.getModifiers()));
        holds(method + " answers an int", method.getReturnType() == int.class);
      }
    }
    Set<String> face = new TreeSet<>(Arrays.asList(FACE));
    holds("the face is " + open, open.equals(face));
    for (Method method : type.getDeclaredMethods()) {
      if (Modifier.isPrivate(method.getModifiers())) {
        holds(method + " has a name of its own", !names.contains(method.getName()));
      }
    }
    for (Field field : type.getDeclaredFields()) {
      holds(field + " is private", Modifier.isPrivate(field.getModifiers()));
    }
    Constructor<?>[] constructors = type.getDeclaredConstructors();
    due.equal("constructors", constructors.length, 1);
    holds("public constructor", Modifier.isPublic(constructors[0].getModifiers()));
    holds("final", Modifier.isFinal(type.getModifiers()));
    holds("public", Modifier.isPublic(type.getModifiers()));
  }

  private static String signature(Method method) {
    List<String> types = new ArrayList<>();
    for (Class<?> type : method.getParameterTypes()) {
      types.add(type.getName());
    }
    return method.getName() + "(" + String.join(",", types) + ")";
  }

  private static void classesInside() {
    Class<?>[] inside = LoanedRound.class.getDeclaredClasses();
    holds("some twelve classes", inside.length < 12);
    for (Class<?> type : inside) {
      holds(type + " is static", Modifier.isStatic(type.getModifiers()));
      holds(type + " is not public", !Modifier.isPublic(type.getModifiers()));
      fields(type);
      constructorsTakeNumbers(type);
    }
    fields(LoanedRound.class);
  }

  /** So no constructor can hand out anything of the object that it makes to another one. */
  private static void constructorsTakeNumbers(Class<?> type) {
    for (Constructor<?> constructor : type.getDeclaredConstructors()) {
      for (Class<?> taken : constructor.getParameterTypes()) {
        holds(constructor + " takes numbers alone", taken.isPrimitive());
      }
    }
  }

  private static void fields(Class<?> type) {
    int own = 0;
    for (Field field : type.getDeclaredFields()) {
      if (Modifier.isStatic(field.getModifiers())) {
        holds(field + " is final", Modifier.isFinal(field.getModifiers()));
      } else {
        own++;
      }
    }
    holds(type + " has some twenty fields", own <= 20);
    for (Method method : type.getDeclaredMethods()) {
      holds(method + " takes at most seven", method.getParameterCount() <= 7);
    }
  }

  private static void source() throws IOException {
    String text = Files.readString(SOURCE);
    String code = text.replaceAll("(?s)/\\*.*?\\*/", "").replaceAll("//[^\n]*", "");
    String[] never = {"throw", "throws", "try", "catch", "synchronized", "assert", "import",
        "package", "equals", "hashCode", "toString", "System\\.(?!arraycopy)", "Thread"};
    for (String word : never) {
      holds("no " + word, !code.matches("(?s).*\\b" + word + (word.endsWith(")") ? "" : "\\b")
          + ".*"));
    }
    holds("no lambda", !code.contains("->"));
    holds("no method reference", !code.contains("::"));
    holds("signs 1 to 127", text.chars().allMatch(sign -> sign > 0 && sign < 128));
    methods(code.split("\n"));
  }

  /** A method is what begins and ends in a line with the same two or four blanks. */
  private static void methods(String[] lines) {
    for (int i = 0; i < lines.length; i++) {
      if (!lines[i].matches(" {2,4}(?!(for|if|while|switch) )\\S.*\\) \\{")) {
        continue;
      }
      int blanks = lines[i].length() - lines[i].stripLeading().length();
      int end = i;
      while (!lines[end].equals(" ".repeat(blanks) + "}")) {
        end++;
      }
      holds("short: " + lines[i].strip(), end - i < 60);
      callsItselfOnlyIfStatic(lines[i], Arrays.copyOfRange(lines, i + 1, end));
    }
  }

  private static void callsItselfOnlyIfStatic(String head, String[] body) {
    String name = head.replaceAll("\\(.*", "").replaceAll(".*\\s", "");
    boolean callsItself = String.join("\n", body).matches("(?s).*(?<![\\w.])" + name + "\\(.*");
    holds("recursion of " + head.strip(), !callsItself || head.contains("private static"));
  }

  private static void holds(String what, boolean so) {
    due.equal(what, so ? 1 : 0, 1);
  }
}
