import java.lang.reflect.Executable;
import java.lang.reflect.Field;
import java.lang.reflect.Method;
import java.lang.reflect.Modifier;
import java.nio.file.Files;
import java.nio.file.Path;
import java.util.ArrayList;
import java.util.List;
import java.util.Set;
import java.util.TreeSet;

/** The class has the document's public face, sign by sign, and no more. */
public final class FaceTest {
  private static final Due due = new Due("FaceTest");
  private static final Path DOCUMENT = Path.of("../shared/DOC.md");
  private static final int CALLS = 47;

  public static void main(String[] args) throws Exception {
    Set<String> wanted = wantedFace();
    Set<String> found = foundFace();
    due.is("class, constant, constructor and calls of the document", wanted.size(), 3 + CALLS);
    for (String line : wanted) {
      due.is("there: " + line, found.contains(line) ? 1 : 0, 1);
    }
    for (String line : found) {
      due.is("in the document: " + line, wanted.contains(line) ? 1 : 0, 1);
    }
    above();
    inside();
    names();
    due.close();
  }

  /** The lines of the document's block, without the names of parameters. */
  private static Set<String> wantedFace() throws Exception {
    String document = Files.readString(DOCUMENT);
    String block = document.substring(document.indexOf("```java\n"), document.indexOf("## Terms"));
    Set<String> lines = new TreeSet<>();
    for (String line : block.split("\n")) {
      if (line.trim().startsWith("public ")) {
        String bare = line.trim().replaceAll(" \\{$|;$", "");
        lines.add(bare.replaceAll("(int|long|boolean) \\w+(?=[,)])", "$1"));
      }
    }
    return lines;
  }

  private static Set<String> foundFace() throws Exception {
    Class<?> c = ComplaintBooks.class;
    Set<String> lines = new TreeSet<>();
    lines.add(Modifier.toString(c.getModifiers()) + " class " + c.getName());
    for (Field field : c.getDeclaredFields()) {
      if (!Modifier.isPrivate(field.getModifiers())) {
        String value = Modifier.isStatic(field.getModifiers()) ? " = " + field.get(null) : "";
        lines.add((Modifier.toString(field.getModifiers()) + " " + field.getType().getName()).trim()
            + " " + field.getName() + value);
      }
    }
    List<Executable> executables = new ArrayList<>(List.of(c.getDeclaredConstructors()));
    executables.addAll(List.of(c.getDeclaredMethods()));
    for (Executable one : executables) {
      if (!Modifier.isPrivate(one.getModifiers())) {
        lines.add(lineOf(one));
      }
    }
    return lines;
  }

  private static String lineOf(Executable one) {
    List<String> types = new ArrayList<>();
    for (Class<?> type : one.getParameterTypes()) {
      types.add(type.getName());
    }
    String answer = one instanceof Method m ? m.getReturnType().getName() + " " : "";
    return (Modifier.toString(one.getModifiers()) + " " + answer + one.getName()).trim()
        + "(" + String.join(", ", types) + ")";
  }

  private static void above() {
    Class<?> c = ComplaintBooks.class;
    due.is("under Object alone", c.getSuperclass() == Object.class ? 1 : 0, 1);
    due.is("interfaces", c.getInterfaces().length, 0);
    due.is("package", c.getPackageName().length(), 0);
  }

  private static void inside() {
    for (Class<?> c : ComplaintBooks.class.getDeclaredClasses()) {
      int is = c.getModifiers();
      due.is(c + " static", Modifier.isStatic(is) ? 1 : 0, 1);
      due.is(c + " seen from outside", Modifier.isPublic(is) || Modifier.isProtected(is) ? 1 : 0, 0);
    }
  }

  /** No private method bears the name of a public one. */
  private static void names() {
    Set<String> taken = new TreeSet<>();
    for (Method method : ComplaintBooks.class.getDeclaredMethods()) {
      if (Modifier.isPublic(method.getModifiers())) {
        taken.add(method.getName());
      }
    }
    due.is("names of calls", taken.size(), CALLS);
    List<Class<?>> classes = new ArrayList<>(List.of(ComplaintBooks.class.getDeclaredClasses()));
    classes.add(ComplaintBooks.class);
    for (Class<?> c : classes) {
      for (Method method : c.getDeclaredMethods()) {
        boolean again = Modifier.isPrivate(method.getModifiers()) && taken.contains(method.getName());
        due.is(method + " bears the name of a public one", again ? 1 : 0, 0);
      }
    }
  }
}
