import java.util.Map;

/**
 * TEXTS once more, read in another way than the class reads them: cut at their signs from the
 * outside in, and a FAULT found by trying what could still stand behind.
 */
final class PlainText {
  private static final int MOST_OPEN = 5;

  static final class NoText extends Exception {
    private static final long serialVersionUID = 1L;
  }

  private PlainText() {
  }

  static int worth(String text, Map<Character, Integer> names) throws NoText {
    return alternatives(text, names, 0);
  }

  static boolean isText(String text, Map<Character, Integer> names) {
    try {
      worth(text, names);
      return true;
    } catch (NoText no) {
      return false;
    }
  }

  /** -1 if there is none. */
  static int fault(String bytes, Map<Character, Integer> names) {
    if (isText(bytes, names)) {
      return -1;
    }
    for (int i = 0; i < bytes.length(); i++) {
      if (!goesOn(bytes.substring(0, i + 1), names)) {
        return i;
      }
    }
    return bytes.length();
  }

  private static boolean goesOn(String start, Map<Character, Integer> names) {
    for (String operand : new String[] {"", "0"}) {
      for (int closing = 0; closing <= MOST_OPEN; closing++) {
        if (isText(start + operand + ")".repeat(closing), names)) {
          return true;
        }
      }
    }
    return false;
  }

  private static int alternatives(String t, Map<Character, Integer> names, int open) throws NoText {
    int sign = lastOf(t, "|");
    if (sign < 0) {
      return conjunction(t, names, open);
    }
    int left = alternatives(t.substring(0, sign), names, open);
    int right = conjunction(t.substring(sign + 1), names, open);
    return left != 0 | right != 0 ? 1 : 0;
  }

  private static int conjunction(String a, Map<Character, Integer> names, int open) throws NoText {
    int sign = lastOf(a, "&");
    if (sign < 0) {
      return comparison(a, names, open);
    }
    int left = conjunction(a.substring(0, sign), names, open);
    int right = comparison(a.substring(sign + 1), names, open);
    return left != 0 & right != 0 ? 1 : 0;
  }

  private static int comparison(String b, Map<Character, Integer> names, int open) throws NoText {
    int sign = lastOf(b, "<=>");
    if (sign < 0) {
      return sum(b, names, open);
    }
    int left = sum(b.substring(0, sign), names, open);
    int right = sum(b.substring(sign + 1), names, open);
    int order = Integer.compare(left, right);
    return (b.charAt(sign) == '<' ? order < 0 : b.charAt(sign) == '>' ? order > 0 : order == 0)
        ? 1 : 0;
  }

  private static int sum(String s, Map<Character, Integer> names, int open) throws NoText {
    int sign = lastOf(s, "+-");
    if (sign < 0) {
      return product(s, names, open);
    }
    long left = sum(s.substring(0, sign), names, open);
    long right = product(s.substring(sign + 1), names, open);
    return (int) (s.charAt(sign) == '+' ? left + right : left - right);
  }

  private static int product(String p, Map<Character, Integer> names, int open) throws NoText {
    int sign = lastOf(p, "*/%");
    if (sign < 0) {
      return single(p, names, open);
    }
    long left = product(p.substring(0, sign), names, open);
    long right = single(p.substring(sign + 1), names, open);
    if (p.charAt(sign) == '*') {
      return (int) (left * right);
    }
    if (right == 0) {
      return 0;
    }
    return (int) (p.charAt(sign) == '/' ? left / right : left % right);
  }

  private static int single(String q, Map<Character, Integer> names, int open) throws NoText {
    if (q.matches("[0-9]{1,4}")) {
      return Integer.parseInt(q);
    }
    if (q.length() == 1 && names.containsKey(q.charAt(0))) {
      return names.get(q.charAt(0));
    }
    if (q.startsWith("!") && open < MOST_OPEN) {
      return single(q.substring(1), names, open + 1) == 0 ? 1 : 0;
    }
    if (q.startsWith("(") && q.endsWith(")") && open < MOST_OPEN) {
      return alternatives(q.substring(1, q.length() - 1), names, open + 1);
    }
    throw new NoText();
  }

  /** The place of the last of these signs that stands in no brackets, or -1. */
  private static int lastOf(String text, String signs) throws NoText {
    int last = -1;
    int depth = 0;
    for (int i = 0; i < text.length(); i++) {
      char c = text.charAt(i);
      depth += c == '(' ? 1 : c == ')' ? -1 : 0;
      if (depth < 0) {
        throw new NoText();
      }
      if (depth == 0 && signs.indexOf(c) >= 0) {
        last = i;
      }
    }
    if (depth != 0) {
      throw new NoText();
    }
    return last;
  }
}
