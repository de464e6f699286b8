import java.io.IOException;
import java.lang.reflect.Method;
import java.lang.reflect.Modifier;
import java.nio.file.Files;
import java.nio.file.Path;
import java.util.ArrayList;
import java.util.List;
import java.util.TreeSet;
import java.util.regex.Matcher;
import java.util.regex.Pattern;

/**
 * Writes a program out of what README.md shows: its Java is compiled as it stands there, in its order, and each call
 * is held against the answer behind it. A line that would go by untested is told, and no program written.
 */
public final class ReadmeSource {
  private static final Pattern BLOCK = Pattern.compile("(?ms)^```java\\n(.*?)^```$");
  private static final Pattern CALL = Pattern.compile("x\\.([a-zA-Z]+)\\(.*\\)");
  private static final Pattern ASKED = Pattern.compile("(" + CALL.pattern() + "); +// (-?\\d+|true|false|NONE|NOTHING)(:.*)?");
  private static final Pattern LED = Pattern.compile("FatPointers x = new FatPointers\\(\\);|tell\\(x, .*\\);|String [a-z]+ = [a-zA-Z]+\\(x\\);");

  private final List<String> members = new ArrayList<>();
  private final List<String> statements = new ArrayList<>();
  private final List<String> untested = new ArrayList<>();
  private final TreeSet<String> shown = new TreeSet<>();

  public static void main(String[] args) throws IOException {
    ReadmeSource source = new ReadmeSource();
    source.read(Files.readString(Path.of(args[0])));
    source.missCalls();
    for (String line : source.untested) System.err.println(args[0] + ": " + line);
    if (!source.untested.isEmpty()) System.exit(1);
    System.out.print(source.program(args[1]));
  }

  private void read(String text) {
    Matcher block = BLOCK.matcher(text);
    while (block.find()) {
      if (block.group(1).startsWith("static ")) {
        members.add(block.group(1));
      } else {
        block.group(1).lines().forEach(this::statement);
      }
    }
  }

  private void statement(String line) {
    Matcher asked = ASKED.matcher(line);
    if (asked.matches()) {
      shown.add(asked.group(2));
      String call = asked.group(1);
      String answer = asked.group(3).startsWith("NO") ? "FatPointers." + asked.group(3) : asked.group(3) + suffix(asked.group(3));
      statements.add("b.due(\"" + call.replace("\"", "\\\"") + "\", " + call + ", " + answer + ");");
    } else if (LED.matcher(line).matches()) {
      statements.add(line);
    } else if (!line.isBlank() && !line.startsWith("//")) {
      untested.add("not held against an answer: " + line);
    }
  }

  private static String suffix(String answer) {
    return Character.isLetter(answer.charAt(0)) ? "" : "L";
  }

  private void missCalls() {
    for (Method m : FatPointers.class.getDeclaredMethods()) {
      if (Modifier.isPublic(m.getModifiers()) && !shown.contains(m.getName())) untested.add("not shown: " + m.getName());
    }
  }

  private String program(String name) {
    StringBuilder s = new StringBuilder("final class " + name + " {\n");
    for (String member : members) s.append(member).append('\n');
    s.append("public static void main(String[] args) {\nBench b = new Bench(\"README.md\");\n");
    for (String statement : statements) s.append(statement).append('\n');
    return s.append("b.ends();\n}\n}\n").toString();
  }
}
