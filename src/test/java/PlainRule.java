import java.util.ArrayDeque;
import java.util.Deque;
import java.util.Map;

/** RULES another way about: FAULTS by a stack of what is open, EXPR by cutting the text. */
final class PlainRule {
  private PlainRule() {
  }

  private enum Next { K, COLON, ONE, LEFT_NUMBER, LEFT_FIELD, SIGN, RIGHT, RIGHT_NUMBER, RIGHT_FIELD, DONE, J, COLON2, JOIN, END }

  static int faultOf(int[] letters) {
    Deque<Character> open = new ArrayDeque<>();
    Next next = Next.K;
    String digits = "";
    for (int i = 0; i < letters.length; i++) {
      if (letters[i] < 1 || letters[i] > 126) {
        return i;
      }
      char c = (char) letters[i];
      boolean digit = Character.isDigit(c);
      boolean field = "nbhtmwdy".indexOf(c) >= 0;
      if (next == Next.RIGHT_NUMBER && "&|);".indexOf(c) >= 0) {
        next = Next.DONE;
      }
      if (next == Next.LEFT_NUMBER && "<>=".indexOf(c) >= 0) {
        next = Next.SIGN;
      }
      switch (next) {
        case K -> next = c == 'k' ? Next.COLON : null;
        case COLON -> next = c == ':' ? Next.ONE : null;
        case ONE -> {
          if ((c == '!' || c == '(') && open.size() < 20) {
            open.push(c);
          } else if (digit) {
            digits = "" + c;
            next = Next.LEFT_NUMBER;
          } else {
            next = field ? Next.SIGN : null;
          }
        }
        case LEFT_NUMBER, RIGHT_NUMBER -> {
          boolean left = next == Next.LEFT_NUMBER;
          if (digit && !digits.equals("0") && digits.length() < 4) {
            digits += c;
          } else if (c == '*') {
            next = left ? Next.LEFT_FIELD : Next.RIGHT_FIELD;
          } else {
            next = null;
          }
        }
        case LEFT_FIELD -> next = field ? Next.SIGN : null;
        case SIGN -> next = "<>=".indexOf(c) >= 0 ? Next.RIGHT : null;
        case RIGHT -> {
          digits = "" + c;
          next = digit ? Next.RIGHT_NUMBER : field ? Next.DONE : null;
        }
        case RIGHT_FIELD -> next = field ? Next.DONE : null;
        case DONE -> {
          while (!open.isEmpty() && open.peek() == '!') {
            open.pop();
          }
          if (c == '&' || c == '|') {
            next = Next.ONE;
          } else if (c == ')' && !open.isEmpty()) {
            open.pop();
          } else {
            next = c == ';' && open.isEmpty() ? Next.J : null;
          }
        }
        case J -> next = c == 'j' ? Next.COLON2 : null;
        case COLON2 -> next = c == ':' ? Next.JOIN : null;
        case JOIN -> next = "xlc".indexOf(c) >= 0 ? Next.END : null;
        default -> next = null;
      }
      if (next == null) {
        return i;
      }
    }
    return next == Next.END ? -1 : letters.length;
  }

  static boolean keeps(String rule, Map<Character, Integer> fields) {
    return holds(rule.substring(2, rule.length() - 4), fields);
  }

  static char joinOf(String rule) {
    return rule.charAt(rule.length() - 1);
  }

  private static int cut(String s, char at) {
    int depth = 0;
    for (int i = 0; i < s.length(); i++) {
      depth += s.charAt(i) == '(' ? 1 : s.charAt(i) == ')' ? -1 : 0;
      if (depth == 0 && s.charAt(i) == at) {
        return i;
      }
    }
    return -1;
  }

  private static boolean holds(String s, Map<Character, Integer> fields) {
    int or = cut(s, '|');
    if (or >= 0) {
      return holds(s.substring(0, or), fields) | holds(s.substring(or + 1), fields);
    }
    int and = cut(s, '&');
    if (and >= 0) {
      return holds(s.substring(0, and), fields) & holds(s.substring(and + 1), fields);
    }
    if (s.charAt(0) == '!') {
      return !holds(s.substring(1), fields);
    }
    if (s.charAt(0) == '(') {
      return holds(s.substring(1, s.length() - 1), fields);
    }
    String[] sides = s.split("[<>=]");
    int order = Long.compare(worth(sides[0], fields), worth(sides[1], fields));
    return switch (s.charAt(sides[0].length())) {
      case '<' -> order < 0;
      case '>' -> order > 0;
      default -> order == 0;
    };
  }

  private static long worth(String side, Map<Character, Integer> fields) {
    long worth = 1;
    for (String factor : side.split("\\*")) {
      boolean number = Character.isDigit(factor.charAt(0));
      worth *= number ? Long.parseLong(factor) : fields.get(factor.charAt(0));
    }
    return worth;
  }
}
