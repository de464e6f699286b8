import java.util.function.Consumer;
import java.util.function.ToLongFunction;

/** Promise 45, and of every call that is refused, or only answers NONE, that all else stays. */
public final class RefusalEdgesTest {
  private static final int MIN = Integer.MIN_VALUE;
  private static final int MAX = Integer.MAX_VALUE;
  private static final int[] NO_POINTERS = {-1, 16, MIN, MAX};
  private static final Bench b = new Bench("RefusalEdgesTest");
  /** 0 has 16 .. 24, 1 is not valid, 2 and 3 are sealed by 2, 4 to 6 are keys of 2, 3 and none, 7 is out of its bounds. */
  private static final Twins rich = new Twins(b, RefusalEdgesTest::richScene);
  private static final Twins empty = new Twins(b, x -> Lead.tape(x, "total 1"));
  private static final Twins full = new Twins(b, RefusalEdgesTest::fullScene);
  private static final Twins many = new Twins(b, RefusalEdgesTest::manyScene);

  public static void main(String[] args) {
    countsAreApart();
    statusOfOthers();
    tapes();
    texts();
    heap();
    chances();
    copiesAndMoves();
    narrowing();
    limits();
    seals();
    unseals();
    following();
    shelves();
    undosAndSeeds();
    images();
    onlyTold();
    withoutAMachine();
    b.ends();
  }

  private static void richScene(FatPointers x) {
    Lead.tape(x, "memory 64 mantissa 4;shelf a kind 2;shelf b kind 3;pads need/9;picks 0-start;traps at=20;");
    x.machine();
    x.alloc(0, 8);
    x.store(0, 77);
    x.copy(0, 1);
    x.move(1, 12);
    for (int key = 4; key <= 6; key++) {
      x.copy(15, key);
      x.move(key, key - 2);
    }
    x.limit(6, 3);
    x.copy(0, 2);
    x.seal(2, 4);
    for (int place = 0; place < 4; place++) x.shelve(2, 0);
    x.alloc(3, 3);
    x.seal(3, 4);
    x.copy(0, 7);
    x.move(7, -2);
    x.image();
    Lead.tape(x, "" + (char) 70 + (char) 1 + (char) 60 + (char) 1);
    x.see();
    Lead.tape(x, "total )");
    x.ask();
    x.seed(77);
    Lead.tape(x, "memory 64 mantissa 4;");
  }

  private static void fullScene(FatPointers x) {
    Lead.tape(x, "memory 64 mantissa 8;");
    x.machine();
    x.alloc(0, 48);
    Lead.tape(x, " ".repeat(1590));
  }

  private static void manyScene(FatPointers x) {
    Lead.tape(x, "memory 64 mantissa 8;");
    x.machine();
    for (int i = 0; i < 32; i++) x.alloc(i % 16, 1);
  }

  private static void refuse(String what, int status, ToLongFunction<FatPointers> call) {
    rich.refused(what, status, -1, call);
  }

  private static void deny(String what, int status, Lead.Answer call) {
    rich.refused(what, status, 0, x -> call.of(x) ? 1 : 0);
  }

  /** The tape goes by the call, whatever it answers. */
  private static void tapeGoes(Twins twins, String what, int status, long answer, String tape, ToLongFunction<FatPointers> call) {
    twins.compare(what, status, answer, x -> {
      Lead.tape(x, tape);
      return call.applyAsLong(x);
    }, x -> x.end(0));
  }

  // ---- status

  private static void countsAreApart() {
    b.about("How many were refused: 0 feed(), end(); 1 machine(), see(); 2 alloc(), free(), chance(); 3 copy(), move(), narrow(), limit(); 4 seal(),"
        + " unseal(), shelve(), take(); 5 load(), store(); 6 undo(); 7 seed(), on().");
    b.x.end(-1);
    counts(1, 0, 0, 0, 0, 0, 0, 0);
    for (int i = 0; i < 81; i++) b.x.feed(0, 0, 0, 0, 0);
    counts(2, 0, 0, 0, 0, 0, 0, 0);
    b.x.machine();
    counts(2, 1, 0, 0, 0, 0, 0, 0);
    b.x.see();
    counts(2, 2, 0, 0, 0, 0, 0, 0);
    b.x.alloc(0, 1);
    b.x.free(0);
    b.x.chance(1);
    counts(2, 2, 3, 0, 0, 0, 0, 0);
    b.x.copy(0, 1);
    b.x.move(0, 1);
    b.x.narrow(0, 1, 1);
    b.x.limit(0, 1);
    counts(2, 2, 3, 4, 0, 0, 0, 0);
    b.x.seal(0, 1);
    b.x.unseal(0, 1);
    b.x.shelve(0, 0);
    b.x.take(0, 0, 0);
    counts(2, 2, 3, 4, 4, 0, 0, 0);
    b.x.load(0);
    b.x.store(0, 0);
    counts(2, 2, 3, 4, 4, 2, 0, 0);
    b.x.undo();
    counts(2, 2, 3, 4, 4, 2, 1, 0);
    b.x.seed(-1);
    b.x.on();
    counts(2, 2, 3, 4, 4, 2, 1, 2);
    b.stands("memory 64 mantissa 4;", 1);
    counts(2, 2, 3, 4, 4, 2, 1, 2);
  }

  private static void counts(int... want) {
    for (int i = 0; i < 8; i++) b.due("status(" + i + ")", b.x.status(i), want[i]);
  }

  private static void statusOfOthers() {
    b.about("6 undo(); 7 seed(), on(). NONE for others.");
    b.x.undo();
    for (int what : new int[] {-1, 8, MIN, MAX}) b.due("status(" + what + ")", b.x.status(what), -1);
  }

  // ---- all else stays

  private static void tapes() {
    b.about("`NONE = -1`: There is none; it is refused.");
    for (int n : new int[] {-1, 22, 1601, MIN, MAX}) deny("end(" + n + ")", 0, x -> x.end(n));
    full.refused("feed behind 1590 bytes", 0, -1, x -> x.feed(1, 2, 3, 4, 5));
    empty.refused("end(8) of seven bytes", 0, 0, x -> x.end(8) ? 1 : 0);
  }

  /** A machine's fault is told; the other one is led to the same by a question, which changes nothing else. */
  private static void texts() {
    String[] wrong = {"", "memory 63", "memory 64 mantissa 4;shelf a kind 1;shelf a", "memory 64 mantissa 4;pads (((((((1", "memory 64 mantissa 4;pads 1;pads"};
    for (int i = 0; i < wrong.length; i++) {
      String text = wrong[i];
      Consumer<FatPointers> scene = x -> {
        richScene(x);
        Lead.tape(x, text);
        x.machine();
      };
      new Twins(b, scene).compare("machine() again, fault " + (i + 1), 1, -1, x -> {
        Lead.tape(x, text);
        return x.machine();
      }, x -> x.end(0));
      tapeGoesAfterAFault(text);
    }
    String[] rows = {"", "a", "abc", "" + (char) 128 + (char) 1, "" + (char) 64 + (char) 2, "\0".repeat(34)};
    for (String row : rows) tapeGoes(rich, "see() of " + row.length() + " bytes", 1, -1, row, FatPointers::see);
  }

  private static void tapeGoesAfterAFault(String text) {
    FatPointers x = new FatPointers();
    FatPointers y = new FatPointers();
    richScene(x);
    richScene(y);
    Lead.tape(x, text);
    b.due("machine() with a fault", x.machine(), -1);
    for (int p = 0; p < 16; p++) for (int what = 0; what < 9; what++) b.due("pointer(" + p + ", " + what + ")", x.pointer(p, what), y.pointer(p, what));
    for (int i = 0; i <= 10; i++) b.due("has(" + i + ")", x.has(i), y.has(i));
    for (int a = 0; a < 64; a++) b.due("octetAt(" + a + ")", x.octetAt(a), y.octetAt(a));
    for (int i = 0; i < 20; i++) b.due("undo()", x.undo(), y.undo());
  }

  private static void heap() {
    for (int p : NO_POINTERS) {
      refuse("alloc(" + p + ", 1)", 2, x -> x.alloc(p, 1));
      refuse("free(" + p + ")", 2, x -> x.free(p));
    }
    for (int n : new int[] {0, -1, 49, 1025, MIN, MAX}) refuse("alloc(0, " + n + ")", 2, x -> x.alloc(0, n));
    refuse("free of one not valid", 2, x -> x.free(1));
    refuse("free of a sealed one", 2, x -> x.free(2));
    refuse("free of one that never was", 2, x -> x.free(9));
    refuse("free of one without an object", 2, x -> x.free(15));
    full.refused("alloc without a hole", 2, -1, x -> x.alloc(1, 1));
    many.refused("alloc with 32 objects", 2, -1, x -> x.alloc(1, 1));
  }

  private static void chances() {
    for (int n : new int[] {0, -1, 41, MIN, MAX}) refuse("chance(" + n + ")", 2, x -> x.chance(n));
  }

  private static void copiesAndMoves() {
    for (int p : NO_POINTERS) {
      deny("copy(" + p + ", 0)", 3, x -> x.copy(p, 0));
      deny("copy(0, " + p + ")", 3, x -> x.copy(0, p));
      deny("move(" + p + ", 1)", 3, x -> x.move(p, 1));
    }
    deny("copy(0, 0)", 3, x -> x.copy(0, 0));
    for (int step : new int[] {-4096, 4096, MIN, MAX}) deny("move(0, " + step + ")", 3, x -> x.move(0, step));
    deny("move of a sealed one", 3, x -> x.move(2, 1));
  }

  private static void narrowing() {
    for (int p : NO_POINTERS) {
      refuse("narrow(" + p + ", 0, 1)", 3, x -> x.narrow(p, 0, 1));
      refuse("narrow(0, " + p + ", 1)", 3, x -> x.narrow(0, p, 1));
    }
    for (int n : new int[] {-1, 9, 4097, MIN, MAX}) refuse("narrow(0, 9, " + n + ")", 3, x -> x.narrow(0, 9, n));
    refuse("narrow, together above 4096", 3, x -> x.narrow(5, 9, 4094));
    refuse("narrow of one not valid", 3, x -> x.narrow(1, 9, 1));
    refuse("narrow of a sealed one", 3, x -> x.narrow(2, 9, 1));
    refuse("narrow ahead of its bounds", 3, x -> x.narrow(7, 9, 1));
  }

  private static void limits() {
    for (int p : NO_POINTERS) refuse("limit(" + p + ", 1)", 3, x -> x.limit(p, 1));
    for (int perms : new int[] {-1, 8, MIN, MAX}) refuse("limit(0, " + perms + ")", 3, x -> x.limit(0, perms));
    refuse("limit of a sealed one", 3, x -> x.limit(2, 0));
  }

  private static void seals() {
    for (int p : NO_POINTERS) {
      refuse("seal(" + p + ", 4)", 4, x -> x.seal(p, 4));
      refuse("seal(0, " + p + ")", 4, x -> x.seal(0, p));
    }
    refuse("seal of one not valid", 4, x -> x.seal(1, 4));
    refuse("seal of a sealed one", 4, x -> x.seal(2, 4));
    refuse("by a key that is not valid", 4, x -> x.seal(0, 9));
    refuse("by a sealed key", 4, x -> x.seal(0, 2));
    refuse("by a key without the permit", 4, x -> x.seal(0, 6));
    refuse("by a key at 0", 4, x -> x.seal(0, 15));
    refuse("by a key at 14, out of its bounds", 4, x -> x.seal(0, 7));
  }

  private static void unseals() {
    for (int p : NO_POINTERS) {
      deny("unseal(" + p + ", 4)", 4, x -> x.unseal(p, 4));
      deny("unseal(2, " + p + ")", 4, x -> x.unseal(2, p));
    }
    deny("unseal of one not sealed", 4, x -> x.unseal(0, 4));
    deny("by a key of another kind", 4, x -> x.unseal(2, 5));
    deny("by a key without the permit", 4, x -> x.unseal(2, 6));
    deny("by a sealed key", 4, x -> x.unseal(2, 3));
    deny("by a key that is not valid", 4, x -> x.unseal(2, 9));
  }

  private static void following() {
    for (int p : NO_POINTERS) {
      refuse("load(" + p + ")", 5, x -> x.load(p));
      deny("store(" + p + ", 1)", 5, x -> x.store(p, 1));
    }
    for (int p : new int[] {1, 2, 3, 7, 9}) {
      refuse("load(" + p + ")", 5, x -> x.load(p));
      deny("store(" + p + ", 1)", 5, x -> x.store(p, 1));
    }
    for (int value : new int[] {-1, 256, MIN, MAX}) deny("store(0, " + value + ")", 5, x -> x.store(0, value));
    Twins trapped = new Twins(b, x -> {
      richScene(x);
      x.move(0, 4);
      x.limit(5, 4);
      x.move(15, 64);
    });
    trapped.refused("load, trapped", 5, -1, x -> x.load(0));
    trapped.refused("store, trapped", 5, 0, x -> x.store(0, 1) ? 1 : 0);
    trapped.refused("load without the permit", 5, -1, x -> x.load(5));
    trapped.refused("store without the permit", 5, 0, x -> x.store(5, 1) ? 1 : 0);
    trapped.refused("load behind memory", 5, -1, x -> x.load(15));
    trapped.refused("store behind memory", 5, 0, x -> x.store(15, 1) ? 1 : 0);
  }

  private static void shelves() {
    for (int p : NO_POINTERS) {
      refuse("shelve(" + p + ", 0)", 4, x -> x.shelve(p, 0));
      deny("take(0, 0, " + p + ")", 4, x -> x.take(0, 0, p));
    }
    for (int s : new int[] {-1, 2, 3, MIN, MAX}) {
      refuse("shelve(2, " + s + ")", 4, x -> x.shelve(2, s));
      deny("take(" + s + ", 0, 9)", 4, x -> x.take(s, 0, 9));
    }
    for (int place : new int[] {-1, 4, MIN, MAX}) deny("take(0, " + place + ", 9)", 4, x -> x.take(0, place, 9));
    for (int place = 0; place < 4; place++) {
      int empty = place;
      deny("take(1, " + place + ", 9)", 4, x -> x.take(1, empty, 9));
    }
    refuse("shelve, none empty", 4, x -> x.shelve(2, 0));
    refuse("shelve, of another kind", 4, x -> x.shelve(2, 1));
    refuse("shelve, not sealed", 4, x -> x.shelve(0, 1));
    refuse("shelve, not valid", 4, x -> x.shelve(1, 1));
  }

  private static void undosAndSeeds() {
    for (int seed : new int[] {-1, MIN}) deny("seed(" + seed + ")", 7, x -> x.seed(seed));
    new Twins(b, x -> {
      richScene(x);
      for (int i = 0; i < 20; i++) x.undo();
    }).refused("a 21st undo()", 6, 0, x -> x.undo() ? 1 : 0);
    new Twins(b, x -> {
      richScene(x);
      Lead.tape(x, "memory 64 mantissa 4;");
      x.machine();
    }).refused("undo() behind machine()", 6, 0, x -> x.undo() ? 1 : 0);
  }

  private static void images() {
    String[] wrong = {"", "\0", "\0".repeat(128), "\0".repeat(194), "memory 64 mantissa 4;"};
    for (String tape : wrong) tapeGoes(rich, "on() of " + tape.length() + " bytes", 7, 0, tape, x -> x.on() ? 1 : 0);
    // A right image, but for the object's last number, which is looked at last.
    rich.compare("on() of an object that none asked for", 7, 0, x -> {
      StringBuilder s = new StringBuilder();
      for (int k = 0; x.octet(k) >= 0; k++) s.append((char) x.octet(k));
      s.setLength(s.length() - 3);
      s.append("\0\0");
      int c = 149;
      for (int i = 0; i < s.length(); i++) c = (3 * c + s.charAt(i)) % 251;
      Lead.tape(x, s.append((char) c).toString());
      return x.on() ? 1 : 0;
    }, x -> x.end(0));
  }

  /** What only tells answers NONE and counts nothing. */
  private static void onlyTold() {
    rich.onlyTold("fault(2)", -1, x -> x.fault(2));
    rich.onlyTold("has(11)", -1, x -> x.has(11));
    rich.onlyTold("letter(2, 0)", -1, x -> x.letter(2, 0));
    rich.onlyTold("pointer(16, 0)", -1, x -> x.pointer(16, 0));
    rich.onlyTold("shelf(1, 0, 0)", -1, x -> x.shelf(1, 0, 0));
    rich.onlyTold("object(9, 0)", -1, x -> x.object(9, 0));
    rich.onlyTold("hole(9, 0)", -1, x -> x.hole(9, 0));
    rich.onlyTold("octetAt(64)", -1, x -> x.octetAt(64));
    rich.onlyTold("kept(40, 0)", -1, x -> x.kept(40, 0));
    rich.onlyTold("rounds(0, 4097, 0)", -1, x -> x.rounds(0, 4097, 0));
    rich.onlyTold("exact(0, 4097)", -1, x -> x.exact(0, 4097));
    rich.onlyTold("fits(0, 4096)", -1, x -> x.fits(0, 4096));
    rich.onlyTold("quick(0, 4096)", -1, x -> x.quick(0, 4096));
    rich.onlyTold("window(0, 2)", -1, x -> x.window(0, 2));
    rich.onlyTold("reachers(4096)", -1, x -> x.reachers(4096));
    rich.onlyTold("room(0)", -1, x -> x.room(0));
    rich.onlyTold("share(2)", -1, x -> x.share(2));
    rich.onlyTold("places(16, -1)", -1, x -> x.places(16, -1));
    rich.onlyTold("tells(16, 0)", -1, x -> x.tells(16, 0));
    rich.onlyTold("octet(-1)", -1, x -> x.octet(-1));
    rich.onlyTold("status(8)", -1, x -> x.status(8));
    // These tell something, and change nothing by it.
    rich.onlyTold("room(1)", 27, x -> x.room(1));
    rich.onlyTold("odds()", 1, x -> x.odds() > 0 ? 1 : 0);
    rich.onlyTold("tells(0, 0)", 1, x -> x.tells(0, 0) >= 0 ? 1 : 0);
    rich.onlyTold("exact(0, 9)", 5, x -> x.exact(0, 9));
    rich.onlyTold("load(0)", 77, x -> x.load(0));
    tapeGoes(rich, "ask() with the fault that there was", -1, FatPointers.NOTHING, "total )", FatPointers::ask);
  }

  private static void withoutAMachine() {
    empty.refused("alloc", 2, -1, x -> x.alloc(0, 1));
    empty.refused("free", 2, -1, x -> x.free(0));
    empty.refused("chance", 2, -1, x -> x.chance(1));
    empty.refused("copy", 3, 0, x -> x.copy(0, 1) ? 1 : 0);
    empty.refused("move", 3, 0, x -> x.move(0, 1) ? 1 : 0);
    empty.refused("narrow", 3, -1, x -> x.narrow(0, 1, 1));
    empty.refused("limit", 3, -1, x -> x.limit(0, 1));
    empty.refused("seal", 4, -1, x -> x.seal(0, 1));
    empty.refused("unseal", 4, 0, x -> x.unseal(0, 1) ? 1 : 0);
    empty.refused("load", 5, -1, x -> x.load(0));
    empty.refused("store", 5, 0, x -> x.store(0, 1) ? 1 : 0);
    empty.refused("shelve", 4, -1, x -> x.shelve(0, 0));
    empty.refused("take", 4, 0, x -> x.take(0, 0, 0) ? 1 : 0);
    empty.refused("undo", 6, 0, x -> x.undo() ? 1 : 0);
    empty.refused("seed", 7, 0, x -> x.seed(-1) ? 1 : 0);
    tapeGoes(empty, "see", 1, -1, "" + (char) 64 + (char) 1, FatPointers::see);
    tapeGoes(empty, "on", 7, 0, "\0".repeat(130), x -> x.on() ? 1 : 0);
    tapeGoes(empty, "ask", -1, FatPointers.NOTHING, "total )", FatPointers::ask);
    tapeGoes(empty, "ask", -1, FatPointers.NOTHING, "total 1", FatPointers::ask);
    empty.onlyTold("image", -1, FatPointers::image);
    empty.onlyTold("odds", -1, FatPointers::odds);
  }
}
