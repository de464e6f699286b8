import java.lang.management.ManagementFactory;
import java.lang.reflect.Constructor;
import java.lang.reflect.Field;
import java.lang.reflect.Method;
import java.lang.reflect.Modifier;
import java.nio.file.Files;
import java.nio.file.Path;
import java.util.ArrayList;
import java.util.Arrays;
import java.util.List;
import java.util.TreeSet;
import java.util.regex.Matcher;
import java.util.regex.Pattern;

/** What LANGUAGE.md asks and a test can see: the face, forbidden words, sizes, room. */
public final class LanguageTest {
  private static final String FACE = "feed:5i end:1b machine:0i fault:1i has:1i letter:2i pointer:2i shelf:3i object:2i"
      + " hole:2i octetAt:1i kept:2i rounds:3i exact:2i fits:2i quick:2i window:2i reachers:1i room:1i odds:0i"
      + " share:1i see:0i places:2i tells:2i alloc:2i free:1i copy:2b move:2b narrow:3i limit:2i seal:2i"
      + " unseal:2b load:1i store:2b shelve:2i take:3b chance:1i undo:0b seed:1b ask:0l image:0i octet:1i on:0b"
      + " status:1i";
  private static final Bench b = new Bench("LanguageTest");

  public static void main(String[] args) throws Exception {
    face();
    nested();
    words();
    methodsAreShort();
    room();
    b.ends();
  }

  private static void face() {
    TreeSet<String> got = new TreeSet<>();
    TreeSet<String> names = new TreeSet<>();
    for (Method m : FatPointers.class.getDeclaredMethods()) {
      if (Modifier.isPublic(m.getModifiers())) {
        String type = m.getReturnType().getName().substring(0, 1);
        got.add(m.getName() + ":" + m.getParameterCount() + type);
        names.add(m.getName());
        for (Class<?> p : m.getParameterTypes()) b.due("ints alone in " + m, p == int.class, true);
      }
    }
    b.due("the face: " + got, got.equals(new TreeSet<>(Arrays.asList(FACE.split(" ")))), true);
    for (Method m : FatPointers.class.getDeclaredMethods()) {
      boolean isPublic = Modifier.isPublic(m.getModifiers());
      b.due("private: " + m, isPublic || Modifier.isPrivate(m.getModifiers()), true);
      b.due("a name of its own: " + m, isPublic || !names.contains(m.getName()), true);
    }
    for (Field f : FatPointers.class.getDeclaredFields()) {
      boolean constant = f.getName().equals("NONE") || f.getName().equals("NOTHING");
      b.due("private: " + f, constant == Modifier.isPublic(f.getModifiers()), true);
      b.due("private: " + f, constant || Modifier.isPrivate(f.getModifiers()), true);
    }
    b.due("NONE", FatPointers.NONE, -1);
    b.due("NOTHING", FatPointers.NOTHING, -1000000000000000L);
    b.due("final", Modifier.isFinal(FatPointers.class.getModifiers()), true);
    Constructor<?>[] constructors = FatPointers.class.getDeclaredConstructors();
    b.due("constructors", constructors.length, 1);
    b.due("public", Modifier.isPublic(constructors[0].getModifiers()), true);
  }

  private static void nested() {
    List<Class<?>> all = new ArrayList<>(Arrays.asList(FatPointers.class.getDeclaredClasses()));
    b.due("classes", all.size() + 1 <= 12, true);
    all.add(FatPointers.class);
    for (Class<?> c : all) {
      int fields = 0;
      for (Field f : c.getDeclaredFields()) {
        boolean isStatic = Modifier.isStatic(f.getModifiers());
        fields += isStatic ? 0 : 1;
        b.due("final if static: " + f, !isStatic || Modifier.isFinal(f.getModifiers()), true);
        boolean plain = f.getType().isPrimitive() || f.getType() == String.class;
        b.due("a constant if static: " + f, !isStatic || plain, true);
      }
      b.due("fields of " + c + ": " + fields, fields <= 20, true);
      for (Method m : c.getDeclaredMethods()) {
        b.due("parameters of " + m, m.getParameterCount() <= 7, true);
        boolean taken = (" " + FACE).contains(" " + m.getName() + ":");
        b.due("a name of its own: " + m, !taken || Modifier.isPublic(m.getModifiers()), true);
      }
      boolean isStatic = Modifier.isStatic(c.getModifiers());
      b.due("static: " + c, isStatic || c == FatPointers.class, true);
    }
  }

  private static String source() throws Exception {
    return Files.readString(Path.of("src/main/java/FatPointers.java"));
  }

  private static void words() throws Exception {
    String code = source().replaceAll("//[^\n]*", "").replaceAll("(?s)/\\*.*?\\*/", "");
    String[] forbidden = {
      "\\bthrow", "\\btry\\b", "\\bcatch\\b", "\\bsynchronized\\b", "\\bassert\\b", "->", "::", "Exact\\(",
      "\\brecord\\b", "\\byield\\b", "\\bvar\\b", "\\bSystem\\.(?!arraycopy)", "\\bMath\\.random", "\\bThread",
      "\\bimport (?!java\\.util\\.Arrays;)", "\\bpackage\\b", "\\bdouble\\b", "\\bfloat\\b", "\\bequals\\b",
      "\\bhashCode\\b", "\\btoString\\b", "\\bprotected\\b", "\\bnative\\b", "\\binstanceof\\b"
    };
    for (String word : forbidden) {
      b.due("without " + word, Pattern.compile(word).matcher(code).find(), false);
    }
    b.due("text without tabs and other signs", source().matches("[\\n -~]*"), true);
  }

  private static void methodsAreShort() throws Exception {
    String[] lines = source().split("\n");
    Pattern head = Pattern.compile("^( {4}| {8})[A-Za-z][^=;]*\\) \\{$");
    for (int i = 0; i < lines.length; i++) {
      Matcher m = head.matcher(lines[i]);
      if (!m.find()) continue;
      int end = i;
      while (!lines[end].equals(m.group(1) + "}")) end++;
      b.due("lines of " + lines[i].trim(), end - i + 1 <= 60, true);
    }
  }

  /** A run lives in some 58 MB as these are counted; one object with 512 calls is far below that. */
  private static void room() {
    com.sun.management.ThreadMXBean threads =
        (com.sun.management.ThreadMXBean) ManagementFactory.getThreadMXBean();
    long before = threads.getCurrentThreadAllocatedBytes();
    b.fresh();
    b.x.feed(0x6d656d6f, 0x72792036, 0x34206d61, 0x6e746973, 0x73612038);
    b.x.feed(0x3b202020, 0, 0, 0, 0);
    b.x.end(21);
    b.x.machine();
    for (int i = 0; i < 100; i++) {
      b.x.alloc(i % 15, 1);
      b.x.chance(40);
      b.x.image();
      b.x.tells(0, 0);
      b.x.odds();
    }
    long made = threads.getCurrentThreadAllocatedBytes() - before;
    b.due("bytes made: " + made, made < 200000, true);
  }
}
