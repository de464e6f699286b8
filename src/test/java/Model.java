import java.util.ArrayList;
import java.util.List;
import java.util.function.ToLongFunction;

/**
 * The document once more, word by word and without any thought of speed or room, so that runs of
 * FatPointers can be held against it. It shares no code and few ideas with the class.
 */
public final class Model {
  static final long NOTHING = -1000000000000000L;

  static final class Fault extends RuntimeException {
    private static final long serialVersionUID = 1L;
    final int kind;
    final int place;

    Fault(int kind, int place) {
      super(kind + " at " + place, null, false, false);
      this.kind = kind;
      this.place = place;
    }
  }

  static final class Cell implements Cloneable {
    boolean valid;
    int address;
    int e;
    int b;
    int t;
    int permits;
    int kind;

    Cell copy() {
      Cell c = new Cell();
      c.valid = valid;
      c.address = address;
      c.e = e;
      c.b = b;
      c.t = t;
      c.permits = permits;
      c.kind = kind;
      return c;
    }
  }

  static final class World {
    List<Cell> pointers = new ArrayList<>();
    List<Cell> places = new ArrayList<>();
    List<int[]> objects = new ArrayList<>();
    List<int[]> kept = new ArrayList<>();
    int[] memory = new int[0];

    World copy() {
      World w = new World();
      for (Cell c : pointers) w.pointers.add(c.copy());
      for (Cell c : places) w.places.add(c == null ? null : c.copy());
      for (int[] o : objects) w.objects.add(o.clone());
      w.kept.addAll(kept);
      w.memory = memory.clone();
      return w;
    }
  }

  /** What the names of a formula mean while it is worked out. */
  static final class Scene {
    long need;
    long start;
    long room;
    int number;
    Cell cell;
  }

  static final class Told {
    int memory;
    int m;
    List<String> names = new ArrayList<>();
    List<Integer> kinds = new ArrayList<>();
    ToLongFunction<Scene> picks;
    ToLongFunction<Scene> pads;
    ToLongFunction<Scene> traps;
    int statements;
  }

  private final List<Integer> tape = new ArrayList<>();
  private final int[] refused = new int[8];
  private final List<World> past = new ArrayList<>();
  private final List<int[]> seen = new ArrayList<>();
  private final List<Integer> written = new ArrayList<>();
  private Told told;
  private World w = new World();
  private int faultKind;
  private int faultPlace = -1;
  private long x = 1;

  // ---- texts

  private static final String OWN = " memory mantissa shelf kind picks pads traps need start room at base length"
      + " perms number exp valid from fits or and not all min max ";

  private final class Reading {
    final String text;
    int pos = 0;
    int tokenEnd = -1;
    int open = 0;
    String names = "";
    boolean question;

    Reading(String text) {
      this.text = text;
    }

    char look() {
      while (pos < text.length() && (text.charAt(pos) == ' ' || text.charAt(pos) == '\n')) pos++;
      if (pos == text.length()) return 0xffff;
      char c = text.charAt(pos);
      if (pos == tokenEnd && (digit(c) || letter(c))) throw new Fault(1, pos);
      return c;
    }

    boolean digit(char c) {
      return c >= '0' && c <= '9';
    }

    boolean letter(char c) {
      return c >= 'a' && c <= 'z';
    }

    String word() {
      if (!letter(look())) return "";
      int end = pos;
      while (end < text.length() && letter(text.charAt(end))) end++;
      return text.substring(pos, end);
    }

    void pass(String word) {
      pos += word.length();
      tokenEnd = pos;
    }

    boolean tryWord(String word) {
      if (!word().equals(word)) return false;
      pass(word);
      return true;
    }

    void needWord(String word) {
      if (!tryWord(word)) throw new Fault(1, pos);
    }

    boolean trySign(char c) {
      if (look() != c) return false;
      pos++;
      return true;
    }

    void needSign(char c) {
      if (!trySign(c)) throw new Fault(1, pos);
    }

    int number(int least, int most) {
      if (!digit(look())) throw new Fault(1, pos);
      int from = pos;
      while (pos < text.length() && digit(text.charAt(pos))) {
        if (pos - from == 4) throw new Fault(1, pos);
        pos++;
      }
      tokenEnd = pos;
      int value = Integer.parseInt(text.substring(from, pos));
      if (value < least || value > most) throw new Fault(2, from);
      return value;
    }

    void open() {
      if (open == 6) throw new Fault(4, pos);
      open++;
    }

    ToLongFunction<Scene> test() {
      ToLongFunction<Scene> left = both();
      while (tryWord("or")) {
        ToLongFunction<Scene> a = left;
        ToLongFunction<Scene> b = both();
        left = s -> a.applyAsLong(s) + b.applyAsLong(s) > 0 ? 1 : 0;
      }
      return left;
    }

    ToLongFunction<Scene> both() {
      ToLongFunction<Scene> left = fact();
      while (tryWord("and")) {
        ToLongFunction<Scene> a = left;
        ToLongFunction<Scene> b = fact();
        left = s -> a.applyAsLong(s) * b.applyAsLong(s);
      }
      return left;
    }

    ToLongFunction<Scene> fact() {
      if (tryWord("all")) return s -> 1;
      if (word().equals("not")) {
        open();
        pass("not");
        ToLongFunction<Scene> f = fact();
        open--;
        return s -> f.applyAsLong(s) == 0 ? 1 : 0;
      }
      if (look() == '[') {
        open();
        pos++;
        ToLongFunction<Scene> t = test();
        needSign(']');
        open--;
        return t;
      }
      ToLongFunction<Scene> a = sum();
      char c = look();
      if (c != '<' && c != '>' && c != '=') throw new Fault(1, pos);
      pos++;
      ToLongFunction<Scene> b = sum();
      return s -> {
        long l = a.applyAsLong(s);
        long r = b.applyAsLong(s);
        return (c == '<' ? l < r : c == '>' ? l > r : l == r) ? 1 : 0;
      };
    }

    ToLongFunction<Scene> sum() {
      ToLongFunction<Scene> left = product();
      while (look() == '+' || look() == '-') {
        int sign = text.charAt(pos) == '+' ? 1 : -1;
        pos++;
        ToLongFunction<Scene> a = left;
        ToLongFunction<Scene> b = product();
        left = s -> within(a.applyAsLong(s) + sign * b.applyAsLong(s));
      }
      return left;
    }

    ToLongFunction<Scene> product() {
      ToLongFunction<Scene> left = part();
      while (look() == '*' || look() == '/') {
        boolean times = text.charAt(pos) == '*';
        pos++;
        ToLongFunction<Scene> a = left;
        ToLongFunction<Scene> b = part();
        left = times
            ? s -> within(a.applyAsLong(s) * b.applyAsLong(s))
            : s -> {
              long d = b.applyAsLong(s);
              return d == 0 ? 0 : (long) Math.floor((double) a.applyAsLong(s) / (double) d);
            };
      }
      return left;
    }

    long within(long v) {
      return v > 1000000 ? 1000000 : v < -1000000 ? -1000000 : v;
    }

    ToLongFunction<Scene> part() {
      char c = look();
      if (digit(c)) {
        int n = number(0, 9999);
        return s -> n;
      }
      if (c == '(') {
        open();
        pos++;
        ToLongFunction<Scene> f = sum();
        needSign(')');
        open--;
        return f;
      }
      String word = word();
      if (word.equals("min") || word.equals("max")) {
        pass(word);
        if (look() != '(') throw new Fault(1, pos);
        open();
        pos++;
        ToLongFunction<Scene> a = sum();
        needSign(',');
        ToLongFunction<Scene> b = sum();
        needSign(')');
        open--;
        return word.equals("min")
            ? s -> Math.min(a.applyAsLong(s), b.applyAsLong(s))
            : s -> Math.max(a.applyAsLong(s), b.applyAsLong(s));
      }
      if (question && (word.equals("from") || word.equals("fits"))) {
        open();
        pass(word);
        ToLongFunction<Scene> f = part();
        open--;
        return word.equals("from")
            ? s -> {
              long n = f.applyAsLong(s);
              return n < 0 || n > 15 ? 0 : base(w.pointers.get((int) n));
            }
            : s -> {
              long step = f.applyAsLong(s);
              return step < -4095 || step > 4095 ? 0 : doesFit(s.cell, s.cell.address, (int) step) ? 1 : 0;
            };
      }
      if (word.isEmpty() || !names.contains(" " + word + " ")) throw new Fault(1, pos);
      pass(word);
      return s -> figure(word, s);
    }

    Told machine() {
      Told t = new Told();
      while (look() != 0xffff) {
        if (t.statements == 40) throw new Fault(5, pos);
        statement(t);
        needSign(';');
        t.statements++;
      }
      if (t.statements == 0) throw new Fault(1, text.length());
      return t;
    }

    void statement(Told t) {
      if (t.statements == 0) {
        needWord("memory");
        t.memory = number(64, 1024);
        needWord("mantissa");
        t.m = number(4, 8);
        return;
      }
      String word = word();
      switch (word) {
        case "shelf":
          if (t.names.size() == 4) throw new Fault(5, pos);
          pass(word);
          String name = word();
          if (name.isEmpty() || OWN.contains(" " + name + " ")) throw new Fault(1, pos);
          if (name.length() > 6) throw new Fault(1, pos + 6);
          if (t.names.contains(name)) throw new Fault(3, pos);
          pass(name);
          needWord("kind");
          t.kinds.add(number(1, 7));
          t.names.add(name);
          break;
        case "picks":
          if (t.picks != null) throw new Fault(5, pos);
          pass(word);
          names = " need start room ";
          t.picks = sum();
          break;
        case "pads":
          if (t.pads != null) throw new Fault(5, pos);
          pass(word);
          names = " need ";
          t.pads = sum();
          break;
        case "traps":
          if (t.traps != null) throw new Fault(5, pos);
          pass(word);
          names = " at base length perms ";
          t.traps = test();
          break;
        default:
          throw new Fault(1, pos);
      }
    }
  }

  private long figure(String word, Scene s) {
    switch (word) {
      case "need": return s.need;
      case "start": return s.start;
      case "room": return s.room;
      case "number": return s.number;
      case "at": return s.cell.address;
      case "base": return base(s.cell);
      case "length": return length(s.cell);
      case "exp": return s.cell.e;
      case "kind": return s.cell.kind;
      case "perms": return s.cell.permits;
      case "valid": return s.cell.valid ? 1 : 0;
      default: throw new IllegalStateException(word);
    }
  }

  // ---- encoding

  private static int pow(int n) {
    int p = 1;
    for (int i = 0; i < n; i++) p *= 2;
    return p;
  }

  /** E, rounded base, rounded end. */
  private static int[] encode(int base, int length, int m) {
    for (int e = 0; ; e++) {
      int unit = pow(e);
      int from = base;
      while (from % unit != 0) from--;
      int to = base + length;
      while (to % unit != 0) to++;
      if ((to - from) / unit <= pow(m) / 2) return new int[] {e, from, to};
    }
  }

  private static boolean isExact(int base, int length, int m) {
    int[] r = encode(base, length, m);
    return r[1] == base && r[2] == base + length;
  }

  private void encodeInto(Cell c, int base, int length) {
    int[] r = encode(base, length, told.m);
    c.e = r[0];
    c.b = r[1] / pow(c.e) % pow(told.m);
    c.t = r[2] / pow(c.e) % pow(told.m);
  }

  private int baseFrom(Cell c, int a) {
    int big = pow(told.m);
    int mid = Math.floorDiv(a, pow(c.e)) % big;
    int edge = Math.floorMod(c.b - big / 4, big);
    int correction;
    if (mid < edge && c.b < edge || mid >= edge && c.b >= edge) correction = 0;
    else if (mid < edge) correction = -1;
    else correction = 1;
    int window = pow(c.e + told.m);
    return Math.floorMod((Math.floorDiv(a, window) + correction) * window + c.b * pow(c.e), 4096);
  }

  private int base(Cell c) {
    return baseFrom(c, c.address);
  }

  private int length(Cell c) {
    return Math.floorMod(c.t - c.b, pow(told.m)) * pow(c.e);
  }

  private boolean inside(Cell c, int address) {
    return base(c) <= address && address < base(c) + length(c);
  }

  private boolean doesFit(Cell c, int from, int step) {
    return baseFrom(c, Math.floorMod(from + step, 4096)) == base(c);
  }

  private boolean isQuick(Cell c, int step) {
    int big = pow(told.m);
    int i = Math.floorDiv(step, pow(c.e + told.m));
    int j = Math.floorMod(Math.floorDiv(step, pow(c.e)), big);
    int mid = Math.floorDiv(c.address, pow(c.e)) % big;
    int edge = Math.floorMod(c.b - big / 4, big);
    int d = Math.floorMod(edge - mid, big);
    return i == 0 && j < d - 1 || i == -1 && j >= d && d != 0;
  }

  // ---- the tape, the machine

  public int feed(int a, int b, int c, int d, int e) {
    if (tape.size() + 20 > 1600) return no(0);
    for (int n : new int[] {a, b, c, d, e}) {
      for (int i = 3; i >= 0; i--) tape.add(n >>> (8 * i) & 255);
    }
    return tape.size();
  }

  public boolean end(int n) {
    if (n < 0 || n > tape.size()) return no(0) > 0;
    while (tape.size() > n) tape.remove(tape.size() - 1);
    return true;
  }

  private String text() {
    StringBuilder s = new StringBuilder();
    for (int b : tape) s.append((char) b);
    tape.clear();
    return s.toString();
  }

  private int no(int what) {
    refused[what]++;
    return -1;
  }

  public int machine() {
    try {
      told = new Reading(text()).machine();
      faultKind = 0;
      faultPlace = -1;
    } catch (Fault f) {
      faultKind = f.kind;
      faultPlace = f.place;
      return no(1);
    }
    w = new World();
    for (int i = 0; i < 16; i++) w.pointers.add(new Cell());
    for (int i = 0; i < 4 * told.names.size(); i++) w.places.add(null);
    w.memory = new int[told.memory];
    Cell last = w.pointers.get(15);
    last.valid = true;
    last.permits = 7;
    encodeInto(last, 0, 4096);
    past.clear();
    seen.clear();
    return told.statements;
  }

  public int fault(int what) {
    return what == 0 ? faultKind : what == 1 ? faultPlace : -1;
  }

  // ---- what there is

  private List<int[]> holes() {
    List<int[]> holes = new ArrayList<>();
    for (int a = 16; a < told.memory; a++) {
      boolean taken = false;
      for (int[] o : w.objects) taken |= o[0] <= a && a < o[0] + o[1];
      if (taken) continue;
      int[] last = holes.isEmpty() ? null : holes.get(holes.size() - 1);
      if (last != null && last[0] + last[1] == a) last[1]++;
      else holes.add(new int[] {a, 1});
    }
    return holes;
  }

  public int has(int what) {
    if (what < 0 || what > 10) return -1;
    if (told == null) return 0;
    int sum = 0;
    switch (what) {
      case 0: return told.memory;
      case 1: return told.m;
      case 2:
        for (Cell c : w.pointers) if (c.valid) sum++;
        return sum;
      case 3: return w.objects.size();
      case 4:
        for (int[] o : w.objects) sum += o[1];
        return sum;
      case 5: return holes().size();
      case 6:
        for (int[] h : holes()) sum = Math.max(sum, h[1]);
        return sum;
      case 7: return Math.min(40, w.kept.size());
      case 8: return seen.size();
      case 9: return past.size();
      default: return told.names.size();
    }
  }

  public int letter(int shelf, int k) {
    if (told == null || shelf < 0 || shelf >= told.names.size() || k < 0 || k > 5) return -1;
    String name = told.names.get(shelf);
    return k < name.length() ? name.charAt(k) - 96 : 0;
  }

  private Cell cell(int pointer) {
    return told == null || pointer < 0 || pointer > 15 ? null : w.pointers.get(pointer);
  }

  private boolean isPlace(int shelf, int place) {
    return told != null && shelf >= 0 && shelf < told.names.size() && place >= 0 && place < 4;
  }

  private int tell(Cell c, int what) {
    if (c == null || what < 0 || what > 8) return -1;
    return new int[] {
      c.valid ? 1 : 0, c.address, base(c), length(c), c.e, c.b, c.t, c.permits, c.kind
    }[what];
  }

  public int pointer(int pointer, int what) {
    return tell(cell(pointer), what);
  }

  public int shelf(int shelf, int place, int what) {
    return isPlace(shelf, place) ? tell(w.places.get(4 * shelf + place), what) : -1;
  }

  public int object(int k, int what) {
    return k < 0 || k >= w.objects.size() || what < 0 || what > 2 ? -1 : w.objects.get(k)[what];
  }

  public int hole(int k, int what) {
    if (told == null || k < 0 || k >= holes().size() || what < 0 || what > 1) return -1;
    return holes().get(k)[what];
  }

  public int octetAt(int address) {
    return address < 0 || address >= w.memory.length ? -1 : w.memory[address];
  }

  public int kept(int k, int what) {
    int rows = Math.min(40, w.kept.size());
    if (k < 0 || k >= rows || what < 0 || what > 2) return -1;
    return w.kept.get(w.kept.size() - rows + k)[what];
  }

  // ---- bounds, steps

  private static boolean can(int base, int length) {
    return base >= 0 && length >= 0 && (long) base + length <= 4096;
  }

  public int rounds(int base, int length, int what) {
    if (told == null || !can(base, length) || what < 0 || what > 3) return -1;
    int[] r = encode(base, length, told.m);
    return new int[] {r[0], r[1], r[2] - r[1], isExact(base, length, told.m) ? 1 : 0}[what];
  }

  public int exact(int base, int length) {
    if (!can(base, length)) return -1;
    for (int m = 4; m <= 8; m++) if (isExact(base, length, m)) return m;
    return -1;
  }

  public int fits(int pointer, int step) {
    Cell c = cell(pointer);
    if (c == null || step < -4095 || step > 4095) return -1;
    return doesFit(c, c.address, step) ? 1 : 0;
  }

  public int quick(int pointer, int step) {
    Cell c = cell(pointer);
    if (c == null || step < -4095 || step > 4095) return -1;
    return isQuick(c, step) ? 1 : 0;
  }

  public int window(int pointer, int what) {
    Cell c = cell(pointer);
    if (c == null || what < 0 || what > 1) return -1;
    int n = 0;
    if (what == 0) {
      for (int a = 0; a < 4096; a++) if (baseFrom(c, a) == base(c)) n++;
    } else {
      for (int s = -64; s < 64; s++) if (doesFit(c, c.address, s) && !isQuick(c, s)) n++;
    }
    return n;
  }

  public int reachers(int address) {
    if (told == null || address < 0 || address > 4095) return -1;
    int bits = 0;
    for (int i = 0; i < 16; i++) {
      Cell c = w.pointers.get(i);
      if (c.valid && c.kind == 0 && inside(c, address)) bits += pow(i);
    }
    return bits;
  }

  // ---- the heap

  /** Base and length, or null. */
  private int[] find(int n) {
    if (told == null || n < 1 || n > 1024 || w.objects.size() == 32) return null;
    Scene s = new Scene();
    s.need = n;
    long pad = told.pads == null ? 0 : told.pads.applyAsLong(s);
    int all = n + (int) Math.min(99, Math.max(0, pad));
    int[] r = encode(0, all, told.m);
    int[] best = null;
    long least = 0;
    for (int[] h : holes()) {
      int at = h[0];
      while (at % pow(r[0]) != 0) at++;
      if (at + r[2] > h[0] + h[1]) continue;
      s.need = r[2];
      s.start = h[0];
      s.room = h[1];
      long rank = told.picks == null ? h[0] : told.picks.applyAsLong(s);
      if (best == null || rank < least) {
        best = new int[] {at, r[2]};
        least = rank;
      }
    }
    return best;
  }

  public int room(int n) {
    int[] f = find(n);
    return f == null ? -1 : f[0];
  }

  public int odds() {
    if (told == null) return -1;
    int n = 0;
    for (int i = 1; i <= 100; i++) if (find(i) != null) n++;
    return n;
  }

  public int share(int what) {
    if (told == null || what < 0 || what > 1) return -1;
    int all = 0;
    int asked = 0;
    for (int[] o : w.objects) {
      all += o[1];
      asked += o[2];
    }
    if (what == 0) return 100 * all / (told.memory - 16);
    return all == 0 ? 0 : 100 * (all - asked) / all;
  }

  // ---- where it was

  public int see() {
    String t = text();
    if (told == null || t.isEmpty() || t.length() > 32 || t.length() % 2 != 0) return no(1);
    for (int i = 0; i < t.length(); i += 2) if (t.charAt(i) > 127 || t.charAt(i + 1) > 1) return no(1);
    seen.clear();
    for (int i = 0; i < t.length(); i += 2) seen.add(new int[] {t.charAt(i) - 64, t.charAt(i + 1)});
    return seen.size();
  }

  private List<Integer> placesOf(Cell c) {
    List<Integer> found = new ArrayList<>();
    for (int a = 0; a < 4096; a++) {
      boolean so = baseFrom(c, a) == base(c);
      for (int i = 0; so && i < seen.size(); i++) so = doesFit(c, a, seen.get(i)[0]) == (seen.get(i)[1] == 1);
      if (so) found.add(a);
    }
    return found;
  }

  public int places(int pointer, int k) {
    Cell c = cell(pointer);
    if (c == null) return -1;
    List<Integer> found = placesOf(c);
    if (k == -1) return found.size();
    return k < 0 || k >= found.size() ? -1 : found.get(k);
  }

  public int tells(int pointer, int what) {
    Cell c = cell(pointer);
    if (c == null || what < 0 || what > 1) return -1;
    List<Integer> found = placesOf(c);
    if (found.isEmpty()) return -1;
    int best = 0;
    int least = Integer.MAX_VALUE;
    for (int s = -64; s < 64; s++) {
      int fit = 0;
      for (int a : found) if (doesFit(c, a, s)) fit++;
      int most = Math.max(fit, found.size() - fit);
      if (most < least) {
        least = most;
        best = s;
      }
    }
    return what == 0 ? best + 64 : least;
  }

  // ---- acts

  private void act() {
    past.add(w.copy());
    if (past.size() > 20) past.remove(0);
  }

  private void allocate(Cell c, int n, int[] found) {
    w.objects.add(new int[] {found[0], found[1], n});
    w.objects.sort((p, q) -> p[0] - q[0]);
    w.kept.add(new int[] {0, found[0], found[1]});
    c.valid = true;
    c.address = found[0];
    c.permits = 3;
    c.kind = 0;
    encodeInto(c, found[0], found[1]);
  }

  public int alloc(int pointer, int n) {
    int[] found = find(n);
    if (cell(pointer) == null || found == null) return no(2);
    act();
    allocate(cell(pointer), n, found);
    return found[0];
  }

  private int[] freeable(Cell c) {
    if (c == null || !c.valid || c.kind != 0) return null;
    for (int[] o : w.objects) if (o[0] == base(c) && o[1] == length(c)) return o;
    return null;
  }

  private void release(int[] o) {
    w.objects.removeIf(p -> p[0] == o[0]);
    for (int a = o[0]; a < o[0] + o[1]; a++) w.memory[a] = 0;
    List<Cell> all = new ArrayList<>(w.pointers);
    all.addAll(w.places);
    for (Cell c : all) if (c != null && base(c) >= o[0] && base(c) < o[0] + o[1]) c.valid = false;
    w.kept.add(new int[] {1, o[0], o[1]});
  }

  public int free(int pointer) {
    int[] o = freeable(cell(pointer));
    if (o == null) return no(2);
    act();
    release(o);
    return o[1];
  }

  public boolean copy(int from, int to) {
    if (cell(from) == null || cell(to) == null || from == to) return no(3) > 0;
    act();
    w.pointers.set(to, w.pointers.get(from).copy());
    return true;
  }

  public boolean move(int pointer, int step) {
    Cell c = cell(pointer);
    if (c == null || c.kind != 0 || step < -4095 || step > 4095) return no(3) > 0;
    act();
    int before = base(c);
    c.address = Math.floorMod(c.address + step, 4096);
    if (c.valid && base(c) != before) {
      c.valid = false;
      w.kept.add(new int[] {2, pointer, c.address});
    }
    return c.valid;
  }

  public int narrow(int pointer, int to, int length) {
    Cell c = cell(pointer);
    if (c == null || cell(to) == null || !c.valid || c.kind != 0 || !can(c.address, length)) return no(3);
    int[] r = encode(c.address, length, told.m);
    if (r[1] < base(c) || r[2] > base(c) + length(c)) return no(3);
    act();
    Cell n = w.pointers.get(pointer).copy();
    encodeInto(n, n.address, length);
    w.pointers.set(to, n);
    return r[2] - r[1];
  }

  public int limit(int pointer, int perms) {
    Cell c = cell(pointer);
    if (c == null || c.kind != 0 || perms < 0 || perms > 7) return no(3);
    act();
    c.permits &= perms;
    return c.permits;
  }

  private int key(int key) {
    Cell k = cell(key);
    if (k == null || !k.valid || k.kind != 0 || k.permits < 4 || !inside(k, k.address)) return -1;
    return k.address >= 1 && k.address <= 7 ? k.address : -1;
  }

  public int seal(int pointer, int key) {
    Cell c = cell(pointer);
    int kind = key(key);
    if (c == null || kind < 0 || !c.valid || c.kind != 0) return no(4);
    act();
    c.kind = kind;
    return kind;
  }

  public boolean unseal(int pointer, int key) {
    Cell c = cell(pointer);
    int kind = key(key);
    if (c == null || kind < 0 || !c.valid || c.kind != kind) return no(4) > 0;
    act();
    c.kind = 0;
    return true;
  }

  private boolean follows(Cell c, int permit) {
    if (c == null || !c.valid || c.kind != 0 || !inside(c, c.address)) return false;
    if (c.address >= told.memory || (c.permits & permit) == 0) return false;
    Scene s = new Scene();
    s.cell = c;
    return told.traps == null || told.traps.applyAsLong(s) == 0;
  }

  public int load(int pointer) {
    return follows(cell(pointer), 1) ? w.memory[cell(pointer).address] : no(5);
  }

  public boolean store(int pointer, int value) {
    if (value < 0 || value > 255 || !follows(cell(pointer), 2)) return no(5) > 0;
    act();
    w.memory[cell(pointer).address] = value;
    return true;
  }

  public int shelve(int pointer, int shelf) {
    Cell c = cell(pointer);
    if (c == null || !isPlace(shelf, 0) || !c.valid || c.kind != told.kinds.get(shelf)) return no(4);
    for (int place = 0; place < 4; place++) {
      if (w.places.get(4 * shelf + place) == null) {
        act();
        w.places.set(4 * shelf + place, c.copy());
        return place;
      }
    }
    return no(4);
  }

  public boolean take(int shelf, int place, int pointer) {
    if (!isPlace(shelf, place) || cell(pointer) == null) return no(4) > 0;
    if (w.places.get(4 * shelf + place) == null) return no(4) > 0;
    act();
    w.pointers.set(pointer, w.places.get(4 * shelf + place));
    w.places.set(4 * shelf + place, null);
    return true;
  }

  private int draw(int m) {
    x = (1103515245L * x + 12345L) % 2147483648L;
    return (int) (x / 64 % m);
  }

  public int chance(int n) {
    if (told == null || n < 1 || n > 40) return no(2);
    act();
    int done = 0;
    for (int i = 0; i < n; i++) {
      int which = draw(3);
      Cell c = w.pointers.get(draw(15));
      if (which == 2) {
        int[] o = freeable(c);
        if (o != null) {
          release(o);
          done++;
        }
      } else {
        int bytes = draw(16) + 1;
        int[] found = find(bytes);
        if (found != null) {
          allocate(c, bytes, found);
          done++;
        }
      }
    }
    return done;
  }

  public boolean undo() {
    if (past.isEmpty()) return no(6) > 0;
    w = past.remove(past.size() - 1);
    return true;
  }

  public boolean seed(int seed) {
    if (seed < 0) return no(7) > 0;
    x = seed;
    return true;
  }

  // ---- questions

  public long ask() {
    String t = text();
    if (told == null) return NOTHING;
    String word;
    ToLongFunction<Scene> f;
    try {
      Reading r = new Reading(t);
      r.question = true;
      r.names = " number at base length exp kind perms valid ";
      word = r.word();
      if (!" first last often total most least ".contains(" " + word + " ")) throw new Fault(1, r.pos);
      r.pass(word);
      f = word.matches("first|last|often") ? r.test() : r.sum();
      if (r.look() != 0xffff) throw new Fault(1, r.pos);
    } catch (Fault fault) {
      faultKind = fault.kind;
      faultPlace = fault.place;
      return NOTHING;
    }
    faultKind = 0;
    faultPlace = -1;
    List<Long> values = new ArrayList<>();
    for (int i = 0; i < 16; i++) {
      Scene s = new Scene();
      s.number = i;
      s.cell = w.pointers.get(i);
      values.add(f.applyAsLong(s));
    }
    switch (word) {
      case "first": return values.indexOf(1L);
      case "last": return values.lastIndexOf(1L);
      case "often": return values.stream().filter(v -> v == 1L).count();
      case "total": return values.stream().mapToLong(v -> v).sum();
      case "most": return values.stream().mapToLong(v -> v).max().getAsLong();
      default: return values.stream().mapToLong(v -> v).min().getAsLong();
    }
  }

  // ---- images, refusals

  private static int check(List<Integer> bytes, int count) {
    int c = 149;
    for (int i = 0; i < count; i++) c = (3 * c + bytes.get(i)) % 251;
    return c;
  }

  public int image() {
    if (told == null) return -1;
    written.clear();
    List<Cell> all = new ArrayList<>(w.pointers);
    all.addAll(w.places);
    for (Cell c : all) {
      int[] row = c == null
          ? new int[] {255, 255, 255, 255, 255, 255, 255, 255}
          : new int[] {c.valid ? 1 : 0, c.address / 256, c.address % 256, c.e, c.b, c.t, c.permits, c.kind};
      for (int v : row) written.add(v);
    }
    written.add(w.objects.size());
    for (int[] o : w.objects) {
      for (int v : o) {
        written.add(v / 256);
        written.add(v % 256);
      }
    }
    written.add(check(written, written.size()));
    return written.size();
  }

  public int octet(int k) {
    return k < 0 || k >= written.size() ? -1 : written.get(k);
  }

  private World read(List<Integer> t) {
    int cells = 16 + 4 * told.names.size();
    if (t.size() < 8 * cells + 2) return null;
    int count = t.get(8 * cells);
    if (count > 32 || t.size() != 8 * cells + 1 + 6 * count + 1) return null;
    if (t.get(t.size() - 1) != check(t, t.size() - 1)) return null;
    World r = new World();
    r.memory = new int[told.memory];
    for (int i = 0; i < cells; i++) {
      List<Integer> row = t.subList(8 * i, 8 * i + 8);
      boolean empty = row.stream().allMatch(v -> v == 255);
      if (i >= 16 && empty) {
        r.places.add(null);
        continue;
      }
      Cell c = new Cell();
      if (row.get(0) > 1) return null;
      c.valid = row.get(0) == 1;
      c.address = 256 * row.get(1) + row.get(2);
      c.e = row.get(3);
      c.b = row.get(4);
      c.t = row.get(5);
      c.permits = row.get(6);
      c.kind = row.get(7);
      int big = pow(told.m);
      if (c.address > 4095 || c.e > 13 - told.m || c.b >= big || c.t >= big) return null;
      if (Math.floorMod(c.t - c.b, big) > big / 2 || c.permits > 7 || c.kind > 7) return null;
      if (i >= 16 && c.kind != told.kinds.get((i - 16) / 4)) return null;
      (i < 16 ? r.pointers : r.places).add(c);
    }
    int least = 16;
    for (int i = 0; i < count; i++) {
      int at = 8 * cells + 1 + 6 * i;
      int[] o = new int[3];
      for (int j = 0; j < 3; j++) o[j] = 256 * t.get(at + 2 * j) + t.get(at + 2 * j + 1);
      if (o[0] < least || o[0] + o[1] > told.memory || !isExact(o[0], o[1], told.m)) return null;
      if (o[2] < 1 || o[2] > o[1]) return null;
      r.objects.add(o);
      least = o[0] + o[1];
    }
    return r;
  }

  public boolean on() {
    List<Integer> t = new ArrayList<>(tape);
    tape.clear();
    World r = told == null ? null : read(t);
    if (r == null) return no(7) > 0;
    w = r;
    past.clear();
    return true;
  }

  public int status(int what) {
    return what < 0 || what > 7 ? -1 : refused[what];
  }
}
