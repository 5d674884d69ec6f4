import java.lang.reflect.Constructor;
import java.lang.reflect.Executable;
import java.lang.reflect.Field;
import java.lang.reflect.Modifier;
import java.nio.file.Files;
import java.nio.file.Path;
import java.util.ArrayList;
import java.util.List;
import java.util.Set;
import java.util.regex.Matcher;
import java.util.regex.Pattern;

/** What of ../shared/LANGUAGE.md can be seen by counting. */
public final class LanguageTest {
  private static final Due due = new Due("LanguageTest");
  private static final Path PROGRAM = Path.of("src/main/java/ComplaintBooks.java");
  private static final Set<String> LIBRARY = Set.of("java.util.Arrays", "java.util.ArrayList",
      "java.util.List", "java.util.Iterator");

  public static void main(String[] args) throws Exception {
    String source = Files.readString(PROGRAM);
    List<Class<?>> inside = List.of(ComplaintBooks.class.getDeclaredClasses());
    due.is("twelve classes at most", inside.size() < 12 ? 1 : 0, 1);
    members(ComplaintBooks.class);
    for (Class<?> c : inside) {
      members(c);
    }
    words(source);
    lengths(source);
    due.close();
  }

  private static void members(Class<?> c) {
    int fields = 0;
    for (Field field : c.getDeclaredFields()) {
      boolean isStatic = Modifier.isStatic(field.getModifiers());
      fields += isStatic ? 0 : 1;
      due.is(field + " static, not final", isStatic && !Modifier.isFinal(field.getModifiers()) ? 1 : 0, 0);
    }
    due.is(c + " twenty fields at most", fields <= 20 ? 1 : 0, 1);
    List<Executable> executables = new ArrayList<>(List.of(c.getDeclaredMethods()));
    for (Constructor<?> constructor : c.getDeclaredConstructors()) {
      executables.add(constructor);
    }
    for (Executable e : executables) {
      due.is(e + " seven parameters at most", e.getParameterCount() <= 7 ? 1 : 0, 1);
    }
    due.is(c + " classes inside", c == ComplaintBooks.class ? 0 : c.getDeclaredClasses().length, 0);
  }

  private static void words(String source) {
    String code = source.replaceAll("/\\*(?s:.*?)\\*/", "").replaceAll("//.*", "");
    String[] banned = {"throw", "throws", "try", "catch", "finally", "synchronized", "assert", "package",
      "volatile", "native", "Random", "System.out", "System.err", "System.nanoTime", "Thread", "Object",
      "equals", "hashCode", "toString"};
    for (String word : banned) {
      boolean there = Pattern.compile("\\b" + Pattern.quote(word) + "\\b").matcher(code).find();
      due.is("the word " + word, there ? 1 : 0, 0);
    }
    due.is("lambdas and method references", code.contains("->") || code.contains("::") ? 1 : 0, 0);
    due.is("signs 1 to 126", source.chars().allMatch(c -> c > 0 && c < 127) ? 1 : 0, 1);
    Matcher m = Pattern.compile("import ([\\w.]+);").matcher(code);
    while (m.find()) {
      due.is(m.group(), LIBRARY.contains(m.group(1)) ? 1 : 0, 1);
    }
    due.is("functions whose name ends in Exact", code.contains("Exact(") ? 1 : 0, 0);
  }

  /** By the indentation: a method begins and ends at its own depth. */
  private static void lengths(String source) {
    String[] lines = source.split("\n");
    Pattern head = Pattern.compile("^( {2}| {4})(public|private)\\b.*\\) \\{$");
    for (int i = 0; i < lines.length; i++) {
      Matcher m = head.matcher(lines[i]);
      if (m.find()) {
        int end = i;
        while (!lines[end].equals(m.group(1) + "}")) {
          end++;
        }
        due.is(lines[i].trim() + " sixty lines at most", end - i < 60 ? 1 : 0, 1);
      }
    }
  }
}
