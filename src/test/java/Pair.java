import java.lang.reflect.Method;
import java.util.ArrayList;
import java.util.HashMap;
import java.util.List;
import java.util.Map;

/** An object of the class and a PlainModel that are asked the same, call by call. */
final class Pair {
  private static final Map<String, Method> METHODS = new HashMap<>();

  static {
    for (Method method : LoanedRound.class.getDeclaredMethods()) {
      METHODS.put(method.getName(), method);
    }
  }

  private final LoanedRound round = new LoanedRound();
  private final PlainModel model = new PlainModel();
  private final List<String> calls = new ArrayList<>();
  private int latest = 0;

  /** Whether both answer alike. */
  boolean call(String name, long... args) throws ReflectiveOperationException {
    Method method = METHODS.get(name);
    Object[] values = new Object[args.length];
    for (int i = 0; i < args.length; i++) {
      if (method.getParameterTypes()[i] == long.class) {
        values[i] = args[i];
      } else {
        values[i] = (int) args[i];
      }
    }
    latest = (Integer) method.invoke(round, values);
    int due = model.answer(name, args);
    calls.add(written(name, args) + " " + latest + (latest == due ? "" : ", due is " + due));
    return latest == due;
  }

  /** What the class answered to the latest call. */
  int latest() {
    return latest;
  }

  /** Which ERROR that was, by its number below LOW; 0 if it was none. */
  int refusal() {
    return model.refusal();
  }

  int calls() {
    return calls.size();
  }

  void print() {
    calls.forEach(System.out::println);
  }

  private static String written(String name, long[] args) {
    StringBuilder call = new StringBuilder(name).append('(');
    for (int i = 0; i < args.length; i++) {
      call.append(i == 0 ? "" : ", ").append(args[i]);
    }
    return call.append(')').toString();
  }
}
