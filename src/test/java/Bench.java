import java.io.IOException;
import java.io.UncheckedIOException;
import java.nio.file.Files;
import java.nio.file.Path;

/** An object under test with its tape, and the count of answers that are not as due. */
final class Bench {
  static final long NOTHING = FatPointers.NOTHING;
  FatPointers x = new FatPointers();
  private final String name;
  private String words = "";
  private int wrong = 0;
  private int checked = 0;

  Bench(String name) {
    this.name = name;
  }

  Bench fresh() {
    x = new FatPointers();
    return this;
  }

  /** What follows, on a new object, is about these words of the document, which stand in it once. */
  void about(String words) {
    fresh();
    this.words = words;
    String document = document();
    int at = document.indexOf(words);
    due("words that the document has", at >= 0, true);
    due("words that it has once", document.indexOf(words, at + 1) >= 0, false);
  }

  /** The document with its white space folded, so that words may be quoted across lines. */
  static String document() {
    try {
      return Files.readString(Path.of("../shared/DOC.md")).replaceAll("\\s+", " ");
    } catch (IOException e) {
      throw new UncheckedIOException(e);
    }
  }

  void due(String what, long got, long want) {
    checked++;
    if (got != want) {
      wrong++;
      System.out.println(name + ": " + what + " answered " + got + ", due is " + want);
      if (!words.isEmpty()) System.out.println("  about: " + words);
    }
  }

  void due(String what, boolean got, boolean want) {
    due(what, got ? 1 : 0, want ? 1 : 0);
  }

  void tape(String text) {
    Lead.tape(x, text);
  }

  int machine(String text) {
    tape(text);
    return x.machine();
  }

  long ask(String text) {
    tape(text);
    return x.ask();
  }

  int see(int... bytes) {
    tape(textOf(bytes));
    return x.see();
  }

  boolean on(int... bytes) {
    tape(textOf(bytes));
    return x.on();
  }

  static String textOf(int... bytes) {
    StringBuilder s = new StringBuilder();
    for (int b : bytes) s.append((char) b);
    return s.toString();
  }

  void answers(String question, long want) {
    due("ask " + question, ask(question), want);
    due("fault of ask " + question, x.fault(0), 0);
    due("its place", x.fault(1), -1);
  }

  void askFails(String question, int fault, int place) {
    due("ask " + question, ask(question), NOTHING);
    due("fault of ask " + question, x.fault(0), fault);
    due("place of it in " + question, x.fault(1), place);
  }

  void stands(String text, int statements) {
    due("machine " + text, machine(text), statements);
    due("fault of " + text, x.fault(0), 0);
    due("its place", x.fault(1), -1);
  }

  void fails(String text, int fault, int place) {
    due("machine " + text, machine(text), -1);
    due("fault of " + text, x.fault(0), fault);
    due("place of it in " + text, x.fault(1), place);
  }

  /** All nine numbers of a pointer. */
  void pointerIs(int pointer, int... want) {
    for (int i = 0; i < want.length; i++) due("pointer(" + pointer + ", " + i + ")", x.pointer(pointer, i), want[i]);
  }

  void ends() {
    System.out.println(name + ": " + checked + " answers, " + wrong + " not as due");
    if (wrong > 0) System.exit(1);
  }
}
