import java.util.ArrayList;
import java.util.List;
import java.util.Random;
import java.util.regex.Matcher;
import java.util.regex.Pattern;

/** Random texts of machines and questions, most of them right, some with a mistake in them. */
final class Texts {
  private static final String[] WORDS = {
    "memory", "mantissa", "shelf", "kind", "picks", "pads", "traps", "need", "start", "room", "at", "base",
    "length", "perms", "number", "exp", "valid", "from", "fits", "or", "and", "not", "all", "min", "max",
    "first", "last", "often", "total", "most", "least", "box", "bag", "abcdef", "abcdefg", "mantissax"
  };
  private static final String SIGNS = "()[],;+-*/<>= \n0123456789azAZ@`{";

  private final Random random;
  private String[] names = {};
  /** The kinds of the shelves of the machine that stands. */
  List<Integer> kinds = new ArrayList<>();

  Texts(Random random) {
    this.random = random;
  }

  List<Integer> kindsOf(String text) {
    List<Integer> found = new ArrayList<>();
    Matcher m = Pattern.compile("kind\\s+(\\d+)").matcher(text);
    while (m.find()) found.add(Integer.valueOf(m.group(1)));
    return found;
  }

  private int upTo(int n) {
    return random.nextInt(n);
  }

  private boolean rarely(int n) {
    return random.nextInt(n) == 0;
  }

  private String blank() {
    return rarely(4) ? rarely(3) ? "\n" : "  " : " ";
  }

  private String maybe() {
    return rarely(4) ? blank() : "";
  }

  String sum(int deep) {
    StringBuilder s = new StringBuilder(product(deep));
    while (rarely(3)) s.append(maybe()).append(rarely(2) ? '+' : '-').append(maybe()).append(product(deep));
    return s.toString();
  }

  private String product(int deep) {
    StringBuilder s = new StringBuilder(part(deep));
    while (rarely(4)) s.append(maybe()).append(rarely(2) ? '*' : '/').append(maybe()).append(part(deep));
    return s.toString();
  }

  private String part(int deep) {
    switch (upTo(deep > 0 ? 6 : 3)) {
      case 0:
        return number();
      case 3:
        return "(" + maybe() + sum(deep - 1) + maybe() + ")";
      case 4:
        return (rarely(2) ? "min" : "max") + maybe() + "(" + sum(deep - 1) + "," + sum(deep - 1) + ")";
      case 5:
        if (names.length > 5) return (rarely(2) ? "from" : "fits") + blank() + part(deep - 1);
        return number();
      default:
        return names[upTo(names.length)];
    }
  }

  private String number() {
    switch (upTo(4)) {
      case 0: return String.valueOf(upTo(10));
      case 1: return String.valueOf(upTo(100));
      case 2: return String.valueOf(upTo(10000));
      default: return String.valueOf(upTo(300));
    }
  }

  String test(int deep) {
    StringBuilder s = new StringBuilder(fact(deep));
    while (rarely(3)) s.append(blank()).append(rarely(2) ? "or" : "and").append(blank()).append(fact(deep));
    return s.toString();
  }

  private String fact(int deep) {
    switch (upTo(deep > 0 ? 7 : 4)) {
      case 0:
        return rarely(4) ? "all" : sum(deep) + "=" + sum(deep);
      case 4:
        return "not" + blank() + fact(deep - 1);
      case 5:
        return "[" + maybe() + test(deep - 1) + maybe() + "]";
      default:
        return sum(deep) + maybe() + (rarely(2) ? '<' : '>') + maybe() + sum(deep);
    }
  }

  private int depth() {
    return rarely(8) ? 8 : upTo(4);
  }

  String machine() {
    StringBuilder s = new StringBuilder(maybe());
    int memory = rarely(3) ? 64 : rarely(2) ? 64 + upTo(961) : rarely(2) ? 1024 : 128;
    s.append("memory").append(blank()).append(memory).append(blank()).append("mantissa").append(blank());
    s.append(4 + upTo(5)).append(maybe()).append(';');
    int statements = upTo(7);
    boolean[] had = new boolean[3];
    int shelves = 0;
    for (int i = 0; i < statements; i++) {
      s.append(maybe());
      int which = upTo(5);
      if (which > 2) {
        if (shelves == 4 && !rarely(4)) continue;
        String name = rarely(12) ? WORDS[upTo(WORDS.length)] : String.valueOf((char) ('a' + upTo(26))) + (char) ('a' + shelves);
        s.append("shelf").append(blank()).append(name).append(blank()).append("kind").append(blank());
        s.append(rarely(20) ? upTo(10) : 1 + upTo(7));
        shelves++;
      } else {
        if (had[which] && !rarely(8)) continue;
        had[which] = true;
        names = new String[][] {{"need", "start", "room"}, {"need"}, {"at", "base", "length", "perms"}}[which];
        s.append(new String[] {"picks", "pads", "traps"}[which]).append(blank());
        s.append(which == 2 ? test(depth()) : sum(depth()));
      }
      s.append(maybe()).append(';');
    }
    return shortened(s.append(maybe()).toString());
  }

  String question() {
    names = new String[] {"number", "at", "base", "length", "exp", "kind", "perms", "valid"};
    String[] first = {"first", "last", "often", "total", "most", "least"};
    int which = upTo(6);
    String rest = which < 3 ? test(depth()) : sum(depth());
    return shortened(maybe() + first[which] + blank() + rest + maybe());
  }

  private String shortened(String text) {
    return text.length() > 1600 ? text.substring(0, 1600) : text;
  }

  /** One mistake, or something that only looks like one. */
  String spoilt(String text) {
    int at = upTo(text.length() + 1);
    int to = Math.min(text.length(), at + 1 + upTo(3));
    String head = text.substring(0, at);
    switch (upTo(6)) {
      case 0: return head;
      case 1: return head + text.substring(to);
      case 2: return shortened(head + SIGNS.charAt(upTo(SIGNS.length())) + text.substring(at));
      case 3: return shortened(head + " " + WORDS[upTo(WORDS.length)] + " " + text.substring(at));
      case 4: return shortened(head + (char) upTo(256) + text.substring(to));
      default: return shortened(head + upTo(100000) + text.substring(at));
    }
  }
}
