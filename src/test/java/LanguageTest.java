import java.lang.management.ManagementFactory;
import java.lang.reflect.Constructor;
import java.lang.reflect.Field;
import java.lang.reflect.Method;
import java.lang.reflect.Modifier;
import java.nio.file.Files;
import java.nio.file.Path;
import java.util.ArrayList;
import java.util.Arrays;
import java.util.List;
import java.util.TreeMap;
import java.util.TreeSet;
import java.util.regex.Matcher;
import java.util.regex.Pattern;

/** What LANGUAGE.md asks and a test can see: the face, forbidden words, sizes, room. */
public final class LanguageTest {
  private static final Pattern DECLARED = Pattern.compile("public (int|long|boolean) ([a-zA-Z]+)\\(([a-z, ]*)\\);");
  private static final Bench b = new Bench("LanguageTest");
  /** Each method of the document's face as a text, told by its name. */
  private static final TreeMap<String, String> FACE = new TreeMap<>();

  public static void main(String[] args) throws Exception {
    readFace();
    face();
    nested();
    words();
    methodsAreShort();
    room();
    b.ends();
  }

  /** Names of parameters are no part of a face that a caller could see, so their types alone are held. */
  private static void readFace() {
    Matcher m = DECLARED.matcher(Bench.document());
    while (m.find()) {
      String types = m.group(3).replaceAll("(int) [a-z]+", "$1").replace(" ", "");
      FACE.put(m.group(2), m.group(1) + " " + m.group(2) + "(" + types + ")");
    }
    b.due("methods of the document's face", FACE.size(), 44);
  }

  private static void face() {
    TreeSet<String> got = new TreeSet<>();
    for (Method m : FatPointers.class.getDeclaredMethods()) {
      boolean isPublic = Modifier.isPublic(m.getModifiers());
      b.due("private: " + m, isPublic || Modifier.isPrivate(m.getModifiers()), true);
      b.due("static: " + m, isPublic && Modifier.isStatic(m.getModifiers()), false);
      if (isPublic) got.add(m.toString().replaceAll("^public |FatPointers\\.", ""));
    }
    b.due("the face: " + got, got.equals(new TreeSet<>(FACE.values())), true);
    for (Field f : FatPointers.class.getDeclaredFields()) {
      boolean constant = f.getName().equals("NONE") || f.getName().equals("NOTHING");
      b.due("private: " + f, constant == Modifier.isPublic(f.getModifiers()), true);
      b.due("private: " + f, constant || Modifier.isPrivate(f.getModifiers()), true);
    }
    b.due("NONE", FatPointers.NONE, -1);
    b.due("NOTHING", FatPointers.NOTHING, -1000000000000000L);
    b.due("final", Modifier.isFinal(FatPointers.class.getModifiers()), true);
    Constructor<?>[] constructors = FatPointers.class.getDeclaredConstructors();
    b.due("constructors", constructors.length, 1);
    b.due("public", Modifier.isPublic(constructors[0].getModifiers()), true);
  }

  private static void nested() {
    List<Class<?>> all = new ArrayList<>(Arrays.asList(FatPointers.class.getDeclaredClasses()));
    b.due("classes", all.size() + 1 <= 12, true);
    all.add(FatPointers.class);
    for (Class<?> c : all) {
      int fields = 0;
      for (Field f : c.getDeclaredFields()) {
        boolean isStatic = Modifier.isStatic(f.getModifiers());
        fields += isStatic ? 0 : 1;
        b.due("final if static: " + f, !isStatic || Modifier.isFinal(f.getModifiers()), true);
        boolean plain = f.getType().isPrimitive() || f.getType() == String.class;
        b.due("a constant if static: " + f, !isStatic || plain, true);
      }
      b.due("fields of " + c + ": " + fields, fields <= 20, true);
      for (Method m : c.getDeclaredMethods()) {
        b.due("parameters of " + m, m.getParameterCount() <= 7, true);
        boolean taken = FACE.containsKey(m.getName());
        b.due("a name of its own: " + m, !taken || Modifier.isPublic(m.getModifiers()), true);
      }
      boolean isStatic = Modifier.isStatic(c.getModifiers());
      b.due("static: " + c, isStatic || c == FatPointers.class, true);
    }
  }

  private static String source() throws Exception {
    return Files.readString(Path.of("src/main/java/FatPointers.java"));
  }

  private static void words() throws Exception {
    String code = source().replaceAll("//[^\n]*", "").replaceAll("(?s)/\\*.*?\\*/", "");
    String[] forbidden = {
      "\\bthrow", "\\btry\\b", "\\bcatch\\b", "\\bsynchronized\\b", "\\bassert\\b", "->", "::", "Exact\\(",
      "\\brecord\\b", "\\byield\\b", "\\bvar\\b", "\\bSystem\\.(?!arraycopy)", "\\bMath\\.random", "\\bThread",
      "\\bimport (?!java\\.util\\.Arrays;)", "\\bpackage\\b", "\\bdouble\\b", "\\bfloat\\b", "\\bequals\\b",
      "\\bhashCode\\b", "\\btoString\\b", "\\bprotected\\b", "\\bnative\\b", "\\binstanceof\\b"
    };
    for (String word : forbidden) {
      b.due("without " + word, Pattern.compile(word).matcher(code).find(), false);
    }
    b.due("text without tabs and other signs", source().matches("[\\n -~]*"), true);
  }

  private static void methodsAreShort() throws Exception {
    String[] lines = source().split("\n");
    Pattern head = Pattern.compile("^( {4}| {8})[A-Za-z][^=;]*\\) \\{$");
    for (int i = 0; i < lines.length; i++) {
      Matcher m = head.matcher(lines[i]);
      if (!m.find()) continue;
      int end = i;
      while (!lines[end].equals(m.group(1) + "}")) end++;
      b.due("lines of " + lines[i].trim(), end - i + 1 <= 60, true);
    }
  }

  /** A run lives in some 58 MB as these are counted; one object with 512 calls is far below that. */
  private static void room() {
    com.sun.management.ThreadMXBean threads =
        (com.sun.management.ThreadMXBean) ManagementFactory.getThreadMXBean();
    long before = threads.getCurrentThreadAllocatedBytes();
    b.fresh();
    b.x.feed(0x6d656d6f, 0x72792036, 0x34206d61, 0x6e746973, 0x73612038);
    b.x.feed(0x3b202020, 0, 0, 0, 0);
    b.x.end(21);
    b.x.machine();
    for (int i = 0; i < 100; i++) {
      b.x.alloc(i % 15, 1);
      b.x.chance(40);
      b.x.image();
      b.x.tells(0, 0);
      b.x.odds();
    }
    long made = threads.getCurrentThreadAllocatedBytes() - before;
    b.due("bytes made: " + made, made < 200000, true);
  }
}
