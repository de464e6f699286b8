import java.io.IOException;
import java.nio.file.DirectoryStream;
import java.nio.file.Files;
import java.nio.file.Path;
import java.util.BitSet;
import java.util.regex.Matcher;
import java.util.regex.Pattern;

/** Every word of the document's terms and promises is quoted by a test that is about it. */
public final class DocumentTest {
  private static final Pattern QUOTE = Pattern.compile("\\b(?:about|begin)\\(((?:\\s*\\+?\\s*\"(?:[^\"\\\\]|\\\\.)*\")+)\\)");
  private static final Pattern TEXT = Pattern.compile("\"((?:[^\"\\\\]|\\\\.)*)\"");
  private static final Bench b = new Bench("DocumentTest");

  public static void main(String[] args) throws IOException {
    String document = Bench.document();
    BitSet quoted = quoted(document);
    int from = document.indexOf("I. A MACHINE is a text");
    int to = document.indexOf("## Not promised");
    b.due("where the terms begin and the promises end", from > 0 && to > from, true);
    StringBuilder rest = new StringBuilder();
    for (int i = from; i < to; i++) rest.append(quoted.get(i) ? '|' : document.charAt(i));
    for (String words : rest.toString().split("\\|+")) {
      String left = withoutHeadings(words);
      b.due("no test is about: " + left, left.matches("[\\s;:.,)]*"), true);
    }
    for (int promise = 1; promise <= 45; promise++) promiseIsQuoted(document, quoted, promise);
    b.ends();
  }

  private static BitSet quoted(String document) throws IOException {
    BitSet quoted = new BitSet();
    try (DirectoryStream<Path> tests = Files.newDirectoryStream(Path.of("src/test/java"), "*Test.java")) {
      for (Path test : tests) {
        Matcher quote = QUOTE.matcher(Files.readString(test));
        while (quote.find()) mark(document, quote.group(1), quoted);
      }
    }
    return quoted;
  }

  private static void mark(String document, String literals, BitSet quoted) {
    StringBuilder words = new StringBuilder();
    Matcher text = TEXT.matcher(literals);
    while (text.find()) words.append(text.group(1));
    int at = document.indexOf(words.toString());
    if (at >= 0) quoted.set(at, at + words.length());
  }

  /** What names a part of the document, or leads to the words behind it, says nothing that a test could be about. */
  private static String withoutHeadings(String words) {
    return words.replaceAll("## Promise \\d+: [A-Za-z ]+?(?= `|$)", "")
        .replaceAll("`[a-z]* ?[A-Za-z]+\\([a-z, ]*\\)`:", "")
        .replaceAll("Ahead of the calls [^:]*: ---- [^.]*\\.", "")
        .replaceAll("```(text)?|\\bI{1,3}\\. ?|\\bIV\\. ?|The constants:|AN IMAGE:|Its FAULTS:|The QUICK test of a step:", "");
  }

  private static void promiseIsQuoted(String document, BitSet quoted, int promise) {
    int from = document.indexOf("## Promise " + promise + ":");
    int to = promise < 45 ? document.indexOf("## Promise " + (promise + 1) + ":") : document.indexOf("## Not promised");
    int next = quoted.nextSetBit(document.indexOf("`:", from));
    b.due("promise " + promise + " is quoted", from > 0 && next > 0 && next < to, true);
  }
}
