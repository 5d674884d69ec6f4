import java.io.DataInputStream;
import java.io.IOException;
import java.io.InputStream;
import java.util.ArrayList;
import java.util.List;
import java.util.Set;
import java.util.TreeSet;

/**
 * Rules 2, 4 and 6 of ../shared/LANGUAGE.md, as the compiled classes tell them: what they call
 * outside the file stands in rule 4, and nothing is bound at run time (as a lambda is, or + on texts).
 */
public final class LibraryTest {
  private static final Due due = new Due("LibraryTest");
  private static final String OWN = "ComplaintBooks";
  private static final int MAGIC = 0xCAFEBABE;
  private static final Set<String> LISTED = Set.of(
      "java/lang/Object.<init>()V", "java/lang/Enum.<init>(Ljava/lang/String;I)V", "java/lang/Record.<init>()V",
      "java/lang/String.length()I", "java/lang/String.charAt(I)C", "java/lang/String.isEmpty()Z",
      "java/lang/String.equals(Ljava/lang/Object;)Z", "java/lang/String.indexOf(I)I",
      "java/lang/String.substring(I)Ljava/lang/String;", "java/lang/String.substring(II)Ljava/lang/String;",
      "java/lang/String.toCharArray()[C", "java/lang/String.<init>([C)V",
      "java/lang/System.arraycopy(Ljava/lang/Object;ILjava/lang/Object;II)V");
  private static final Set<String> LISTED_NAMES = Set.of(
      "java/lang/StringBuilder.<init>", "java/lang/StringBuilder.append", "java/lang/StringBuilder.charAt",
      "java/lang/StringBuilder.setCharAt", "java/lang/StringBuilder.setLength",
      "java/lang/StringBuilder.deleteCharAt", "java/lang/StringBuilder.reverse",
      "java/lang/StringBuilder.length", "java/lang/StringBuilder.toString",
      "java/util/ArrayList.<init>", "java/util/ArrayList.add", "java/util/ArrayList.get",
      "java/util/ArrayList.set", "java/util/ArrayList.remove", "java/util/ArrayList.size",
      "java/util/ArrayList.isEmpty", "java/util/ArrayList.clear", "java/util/ArrayList.iterator",
      "java/util/List.add", "java/util/List.get", "java/util/List.set", "java/util/List.remove",
      "java/util/List.size", "java/util/List.isEmpty", "java/util/List.clear", "java/util/List.iterator",
      "java/util/List.of", "java/util/Iterator.next", "java/util/Iterator.hasNext",
      "java/lang/Integer.valueOf", "java/lang/Integer.intValue",
      "java/util/Arrays.copyOf", "java/util/Arrays.copyOfRange", "java/util/Arrays.fill");
  private static final Set<String> COUNTED = Set.of("java/lang/Integer", "java/lang/Long", "java/lang/Math");

  public static void main(String[] args) throws IOException {
    List<Class<?>> classes = new ArrayList<>(List.of(ComplaintBooks.class.getDeclaredClasses()));
    classes.add(ComplaintBooks.class);
    Set<String> outside = new TreeSet<>();
    for (Class<?> c : classes) {
      try (InputStream in = c.getResourceAsStream(c.getName() + ".class")) {
        outside.addAll(new Pool(c.getName(), new DataInputStream(in)).outside());
      }
    }
    due.is("something is called outside", outside.isEmpty() ? 0 : 1, 1);
    for (String call : outside) {
      due.is(call + " stands in rule 4", isListed(call) ? 1 : 0, 1);
    }
    due.close();
  }

  private static boolean isListed(String call) {
    String name = call.substring(0, call.indexOf('('));
    String owner = name.substring(0, name.indexOf('.'));
    if (owner.startsWith("[")) {
      return name.endsWith(".clone");
    }
    if (COUNTED.contains(owner) && !name.endsWith("Exact")) {
      return LISTED_NAMES.contains(name) || call.matches(".*\\([IJ]*\\)[IJZ]");
    }
    return LISTED.contains(call) || LISTED_NAMES.contains(name);
  }

  /** The pool of constants that a compiled class begins with. */
  private static final class Pool {
    private final String name;
    private final int[] kinds;
    private final int[] firsts;
    private final int[] seconds;
    private final String[] texts;

    Pool(String name, DataInputStream in) throws IOException {
      this.name = name;
      if (in.readInt() != MAGIC) {
        throw new IOException(name + " is no class");
      }
      in.readInt();
      int size = in.readUnsignedShort();
      kinds = new int[size];
      firsts = new int[size];
      seconds = new int[size];
      texts = new String[size];
      for (int i = 1; i < size; i++) {
        kinds[i] = in.readUnsignedByte();
        read(in, i);
        // a long and a double take two places
        i += kinds[i] == 5 || kinds[i] == 6 ? 1 : 0;
      }
    }

    private void read(DataInputStream in, int i) throws IOException {
      switch (kinds[i]) {
        case 1 -> texts[i] = in.readUTF();
        case 3, 4 -> in.readInt();
        case 5, 6 -> in.readLong();
        case 7, 8, 16, 19, 20 -> firsts[i] = in.readUnsignedShort();
        case 9, 10, 11, 12, 17, 18 -> {
          firsts[i] = in.readUnsignedShort();
          seconds[i] = in.readUnsignedShort();
        }
        case 15 -> {
          firsts[i] = in.readUnsignedByte();
          seconds[i] = in.readUnsignedShort();
        }
        default -> throw new IOException(name + " has a constant of kind " + kinds[i]);
      }
    }

    /** Calls and fields of other files, and whatever is bound at run time. */
    List<String> outside() {
      List<String> outside = new ArrayList<>();
      for (int i = 1; i < kinds.length; i++) {
        if (kinds[i] >= 9 && kinds[i] <= 11) {
          String owner = texts[firsts[firsts[i]]];
          boolean own = owner.equals(OWN) || owner.startsWith(OWN + "$");
          String member = texts[firsts[seconds[i]]] + (kinds[i] == 9 ? "(a field)" : texts[seconds[seconds[i]]]);
          if (!own) {
            outside.add(owner + "." + member);
          }
        } else if (kinds[i] == 17 || kinds[i] == 18) {
          outside.add(name + ".boundAtRunTime()");
        }
      }
      return outside;
    }
  }
}
