import java.math.BigInteger;
import java.util.TreeSet;

/** What is kept, what is undone and what is done by the seed, at the edges: terms II, promises 13 and 38 to 40. */
public final class TimeEdgesTest {
  private static final int MIN = Integer.MIN_VALUE;
  private static final int MAX = Integer.MAX_VALUE;
  private static final String M = "memory 64 mantissa 8;";
  private static final Bench b = new Bench("TimeEdgesTest");
  private static long x = 1;

  public static void main(String[] args) {
    whatIsKept();
    theLastForty();
    bySeed();
    drawsOfAll();
    whatCannotBeIsNotDone();
    whatIsAnAct();
    theLastTwenty();
    drawing();
    keptRows();
    times();
    timesRefused();
    undoing();
    undoRefused();
    seeds();
    seedsRefused();
    b.ends();
  }

  /** As the document tells it, by numbers of any size. */
  private static int draw(int m) {
    x = BigInteger.valueOf(1103515245).multiply(BigInteger.valueOf(x)).add(BigInteger.valueOf(12345))
        .mod(BigInteger.TWO.pow(31)).longValueExact();
    return (int) (x / 64 % m);
  }

  private static void keptIs(int k, int which, int first, int second) {
    b.due("kept(" + k + ", 0)", b.x.kept(k, 0), which);
    b.due("kept(" + k + ", 1)", b.x.kept(k, 1), first);
    b.due("kept(" + k + ", 2)", b.x.kept(k, 2), second);
  }

  // ---- terms II

  private static void whatIsKept() {
    b.about("KEPT is each allocating (0; base; length), freeing (1; base; length), moving by which one is VALID no more (2; the POINTER; its address"
        + " then);");
    b.machine("memory 64 mantissa 4;");
    b.x.alloc(3, 9);
    keptIs(0, 0, 16, 10);
    b.x.copy(3, 4);
    b.x.move(4, 23);
    b.due("moved to the last of its window", b.x.has(7), 1);
    b.x.move(4, 1);
    b.due("moved out of it", b.x.has(7), 2);
    keptIs(1, 2, 4, 40);
    b.x.move(4, 1000);
    b.x.move(4, -1000);
    b.due("moved when it was not valid", b.x.has(7), 2);
    b.x.copy(3, 5);
    b.x.free(3);
    b.due("freed; others are valid no more, but not by moving", b.x.has(7), 3);
    keptIs(2, 1, 16, 10);
    b.x.copy(15, 14);
    b.x.narrow(14, 14, 8);
    b.x.move(14, -5);
    keptIs(3, 2, 14, 4091);
    b.x.free(3);
    b.x.alloc(3, 49);
    b.x.move(16, 1);
    b.x.store(15, 1);
    b.due("nothing else is kept", b.x.has(7), 4);
    b.x.seed(1);
    int done = b.x.chance(5);
    b.due("by the seed, too", b.x.has(7), 4 + done);
  }

  private static void theLastForty() {
    b.about("the last 40 are told.");
    b.machine(M);
    for (int i = 1; i <= 20; i++) {
      b.x.alloc(0, i);
      b.x.free(0);
    }
    b.due("forty", b.x.has(7), 40);
    keptIs(0, 0, 16, 1);
    keptIs(39, 1, 16, 20);
    b.due("no more", b.x.kept(40, 0), -1);
    b.x.alloc(0, 21);
    b.due("forty still", b.x.has(7), 40);
    keptIs(0, 1, 16, 1);
    keptIs(1, 0, 16, 2);
    keptIs(38, 1, 16, 20);
    keptIs(39, 0, 16, 21);
    b.due("no more", b.x.kept(40, 0), -1);
    b.x.undo();
    keptIs(0, 0, 16, 1);
    keptIs(39, 1, 16, 20);
    b.x.undo();
    b.due("one less", b.x.has(7), 39);
    keptIs(38, 0, 16, 20);
    b.due("no more", b.x.kept(39, 0), -1);
  }

  private static void bySeed() {
    b.about("BY THE SEED: a DRAW of 3, a DRAW of 15 (a POINTER): 0, 1: for it as many bytes as a DRAW of 16 and 1 are ALLOCATED; 2: by it there is"
        + " FREED");
    b.machine("memory 1024 mantissa 8;");
    x = 1;
    for (int i = 0; i < 25; i++) {
      int which = draw(3);
      int pointer = draw(15);
      boolean frees = which == 2 && b.x.pointer(pointer, 0) == 1;
      int bytes = which == 2 ? 0 : draw(16) + 1;
      int room = bytes > 0 ? b.x.room(bytes) : -1;
      int objects = b.x.has(3);
      b.due("chance(1)", b.x.chance(1), bytes > 0 || frees ? 1 : 0);
      b.due("objects", b.x.has(3), objects + (bytes > 0 ? 1 : frees ? -1 : 0));
      if (bytes > 0) b.due("its base", b.x.pointer(pointer, 2), room);
      if (bytes > 0) b.due("its length", b.x.pointer(pointer, 3), bytes);
      if (frees) b.due("not valid", b.x.pointer(pointer, 0), 0);
    }
  }

  /** On new objects, so that each draw of a pointer and of bytes is seen, 14 and 16 as well as 0 and 1. */
  private static void drawsOfAll() {
    b.about("as many bytes as a DRAW of 16 and 1 are ALLOCATED;");
    TreeSet<Integer> pointers = new TreeSet<>();
    TreeSet<Integer> bytes = new TreeSet<>();
    TreeSet<Integer> kinds = new TreeSet<>();
    for (int seed = 0; seed < 400; seed++) {
      b.fresh();
      b.machine(M);
      b.x.seed(seed);
      x = seed;
      int which = draw(3);
      int pointer = draw(15);
      int n = which == 2 ? 0 : draw(16) + 1;
      b.due("chance(1) from " + seed + " on", b.x.chance(1), which == 2 ? 0 : 1);
      b.due("its length", b.x.pointer(pointer, 3), n);
      pointers.add(pointer);
      bytes.add(n);
      kinds.add(which);
    }
    b.due("pointers 0 .. 14", pointers.first() == 0 && pointers.last() == 14 && pointers.size() == 15, true);
    b.due("bytes 1 .. 16", bytes.last() == 16 && bytes.size() == 17, true);
    b.due("0, 1, 2", kinds.size(), 3);
  }

  private static void whatCannotBeIsNotDone() {
    b.about("(what can't be is not done).");
    b.machine(M);
    b.x.alloc(15, 48);
    b.x.seed(3);
    b.due("a full heap, none by a valid pointer", b.x.chance(40), 0);
    b.due("nothing is refused by it", b.x.status(2), 0);
    b.due("objects", b.x.has(3), 1);
    b.due("kept", b.x.has(7), 1);
    for (int p = 0; p < 15; p++) b.due("pointer " + p, b.x.pointer(p, 0), 0);
    // All of 0 .. 14 have the one object's bounds, but sealed ones free nothing.
    b.x.undo();
    b.x.undo();
    b.x.move(15, 1);
    b.x.copy(15, 0);
    b.x.alloc(1, 48);
    b.x.seal(1, 0);
    b.x.copy(1, 0);
    for (int p = 2; p < 15; p++) b.x.copy(1, p);
    b.due("sealed ones", b.x.chance(40), 0);
    b.due("objects", b.x.has(3), 1);
    // Not sealed, one of them frees it; then bytes are allocated again.
    for (int p = 0; p < 15; p++) b.x.unseal(p, 15);
    b.due("not sealed ones", b.x.chance(40) > 1, true);
  }

  private static void whatIsAnAct() {
    b.about("ACTS: all that is done of allocating, freeing, copying, moving, narrowing, limiting, sealing, unsealing, storing, putting on a SHELF,"
        + " taking, times by the seed.");
    b.machine("memory 64 mantissa 4;shelf s kind 2;");
    int acts = 0;
    b.x.alloc(0, 8);
    b.due("allocating", b.x.has(9), ++acts);
    b.x.copy(0, 1);
    b.due("copying", b.x.has(9), ++acts);
    b.x.move(15, 2);
    b.due("moving", b.x.has(9), ++acts);
    b.x.move(15, 0);
    b.due("moving by nothing", b.x.has(9), ++acts);
    b.x.narrow(1, 1, 8);
    b.due("narrowing to the same", b.x.has(9), ++acts);
    b.x.limit(1, 7);
    b.due("limiting to the same", b.x.has(9), ++acts);
    b.x.seal(1, 15);
    b.due("sealing", b.x.has(9), ++acts);
    b.x.shelve(1, 0);
    b.due("putting on a shelf", b.x.has(9), ++acts);
    b.x.unseal(1, 15);
    b.due("unsealing", b.x.has(9), ++acts);
    b.x.take(0, 0, 1);
    b.due("taking", b.x.has(9), ++acts);
    b.x.store(0, 0);
    b.due("storing the same", b.x.has(9), ++acts);
    b.x.free(0);
    b.due("freeing", b.x.has(9), ++acts);
    b.x.chance(40);
    b.due("forty times by the seed", b.x.has(9), ++acts);
    b.x.load(15);
    b.x.image();
    b.see(64, 1);
    b.ask("total 1");
    b.x.seed(5);
    b.x.room(3);
    b.machine("x");
    b.due("no acts", b.x.has(9), acts);
  }

  private static void theLastTwenty() {
    b.about("The last 20 can be undone.");
    b.machine(M);
    for (int i = 1; i <= 19; i++) b.x.store(15, i);
    b.due("nineteen", b.x.has(9), 19);
    b.x.store(15, 20);
    b.due("twenty", b.x.has(9), 20);
    b.x.store(15, 21);
    b.due("twenty still", b.x.has(9), 20);
    for (int i = 20; i >= 1; i--) {
      b.due("undo", b.x.undo(), true);
      b.due("the byte", b.x.octetAt(0), i);
      b.due("left", b.x.has(9), i - 1);
    }
    b.due("a 21st", b.x.undo(), false);
    b.due("the byte", b.x.octetAt(0), 1);
    // Acts and undoing by turns, around where the oldest gives way.
    for (int i = 0; i < 50; i++) {
      b.x.store(15, 100 + i);
      b.x.store(15, 7);
      b.due("undo", b.x.undo(), true);
      b.due("the byte", b.x.octetAt(0), 100 + i);
    }
    // The last one was undone, and for it the oldest had given way.
    b.due("nineteen", b.x.has(9), 19);
    for (int i = 0; i < 19; i++) {
      b.due("undo", b.x.undo(), true);
      b.due("the byte", b.x.octetAt(0), 148 - i);
    }
    b.due("no more", b.x.undo(), false);
  }

  private static void drawing() {
    b.about("A DRAW of m: x (the seed) becomes (1103515245 x + 12345) mod 2 to the 31; floor(x / 64) mod m.");
    for (int seed : new int[] {0, 1, 2, 12345, MAX - 1, MAX, 1 << 30, 0x55555555}) {
      b.fresh();
      b.machine("memory 1024 mantissa 8;");
      b.x.seed(seed);
      x = seed;
      for (int i = 0; i < 12; i++) {
        int which = draw(3);
        int pointer = draw(15);
        int bytes = which == 2 ? 0 : draw(16) + 1;
        int before = b.x.pointer(pointer, 0);
        b.x.chance(1);
        if (bytes > 0) b.due("from " + seed + " on, its length", b.x.pointer(pointer, 3), bytes);
        else b.due("from " + seed + " on, freed", b.x.kept(b.x.has(7) - 1, 0) == 1 || before == 0, true);
      }
    }
  }

  // ---- promises 13, 38 to 40

  private static void keptRows() {
    b.about("Of what is told as KEPT, the k-th from the oldest on: 0 which, 1 and 2 as told. NONE when there is none such, or for others.");
    b.due("without a machine", b.x.kept(0, 0), -1);
    b.machine(M);
    b.due("nothing is kept", b.x.kept(0, 0), -1);
    b.x.alloc(0, 5);
    b.x.alloc(1, 6);
    keptIs(0, 0, 16, 5);
    keptIs(1, 0, 21, 6);
    for (int k : new int[] {-1, 2, 39, 40, MIN, MAX}) {
      for (int what = 0; what < 3; what++) b.due("kept(" + k + ", " + what + ")", b.x.kept(k, what), -1);
    }
    for (int what : new int[] {-1, 3, MIN, MAX}) b.due("kept(0, " + what + ")", b.x.kept(0, what), -1);
    b.x.undo();
    b.due("undone, it is told no more", b.x.kept(1, 0), -1);
    b.x.undo();
    b.due("undone, it is told no more", b.x.kept(0, 0), -1);
  }

  private static void times() {
    b.about("n times by the seed (1 .. 40), one ACT: how often there was ALLOCATED or FREED;");
    for (int n : new int[] {1, 2, 39, 40}) {
      b.fresh();
      b.machine("memory 1024 mantissa 8;");
      int done = b.x.chance(n);
      b.due("how often, by what is kept", done, b.x.has(7));
      b.due("one act", b.x.has(9), 1);
      Bench single = new Bench("one at a time");
      single.machine("memory 1024 mantissa 8;");
      int sum = 0;
      for (int i = 0; i < n; i++) sum += single.x.chance(1);
      b.due(n + " times at once", done, sum);
      for (int p = 0; p < 16; p++) b.due("pointer " + p, b.x.pointer(p, 1), single.x.pointer(p, 1));
      b.due("undone at once", b.x.undo() && b.x.has(3) == 0 && b.x.has(7) == 0, true);
      b.due("no more", b.x.undo(), false);
    }
    b.fresh();
    b.machine(M);
    b.x.seed(9);
    b.due("nothing was done", b.x.chance(1), 0);
    b.due("an act all the same", b.x.has(9), 1);
  }

  private static void timesRefused() {
    b.about("NONE, refused (2), when n can't be, or without a machine.");
    b.due("without a machine", b.x.chance(1), -1);
    b.due("status(2)", b.x.status(2), 1);
    b.machine(M);
    int refused = 1;
    for (int n : new int[] {0, -1, 41, MIN, MAX}) {
      b.due("chance(" + n + ")", b.x.chance(n), -1);
      b.due("status(2)", b.x.status(2), ++refused);
    }
    b.due("no act", b.x.has(9), 0);
    x = 1;
    int which = draw(3);
    int pointer = draw(15);
    b.due("the seed is as it was", b.x.chance(1) == 1 && which < 2 && b.x.pointer(pointer, 3) == draw(16) + 1, true);
  }

  private static void undoing() {
    b.about("The latest ACT is undone (the seed stays): true;");
    b.machine(M);
    x = 1;
    b.x.chance(1);
    draw(3);
    draw(15);
    draw(16);
    b.due("undo", b.x.undo(), true);
    b.due("objects", b.x.has(3), 0);
    int which = draw(3);
    int pointer = draw(15);
    b.due("from where the seed was", b.x.chance(1), which < 2 ? 1 : 0);
    b.due("its length", b.x.pointer(pointer, 3), which < 2 ? draw(16) + 1 : 0);
    b.machine("memory 64 mantissa 8;shelf s kind 1;");
    b.x.move(15, 1);
    b.x.alloc(0, 4);
    b.x.store(0, 200);
    b.x.copy(0, 1);
    b.x.seal(1, 15);
    b.x.shelve(1, 0);
    b.x.free(0);
    b.due("freed", b.x.octetAt(16) == 0 && b.x.shelf(0, 0, 0) == 0, true);
    b.due("undo", b.x.undo(), true);
    b.due("the bytes are there", b.x.octetAt(16), 200);
    b.due("the object is there", b.x.object(0, 1), 4);
    b.due("the pointer is valid", b.x.pointer(0, 0), 1);
    b.due("that on the shelf, too", b.x.shelf(0, 0, 0), 1);
    b.due("kept", b.x.has(7), 1);
    b.due("undo", b.x.undo(), true);
    b.due("the place is empty", b.x.shelf(0, 0, 0), -1);
    b.due("what is seen stays", b.see(64, 1) == 1 && b.x.undo() && b.x.has(8) == 1, true);
    b.due("not sealed", b.x.pointer(1, 8), 0);
    b.due("what is refused stays counted", b.x.free(9) == -1 && b.x.undo() && b.x.status(2) == 1, true);
  }

  private static void undoRefused() {
    b.about("false, refused (6), when none can be.");
    b.due("without a machine", b.x.undo(), false);
    b.due("status(6)", b.x.status(6), 1);
    b.machine(M);
    b.due("ahead of any", b.x.undo(), false);
    b.due("status(6)", b.x.status(6), 2);
    b.x.store(15, 1);
    b.due("one", b.x.undo(), true);
    b.due("and no more", b.x.undo(), false);
    b.due("status(6)", b.x.status(6), 3);
    b.x.store(15, 1);
    b.machine(M);
    b.due("by another machine", b.x.undo(), false);
    b.due("status(6)", b.x.status(6), 4);
    b.x.store(15, 1);
    b.x.free(0);
    b.due("what was refused is not undone", b.x.undo() && b.x.octetAt(0) == 0, true);
    b.due("and no more", b.x.undo(), false);
    b.due("status(6)", b.x.status(6), 5);
  }

  private static void seeds() {
    b.about("(It is 1 at first.)");
    int[] lengths = new int[16];
    b.machine(M);
    b.x.chance(6);
    for (int p = 0; p < 16; p++) lengths[p] = b.x.pointer(p, 3);
    b.fresh();
    b.due("without a machine", b.x.seed(1), true);
    b.machine(M);
    b.x.chance(6);
    for (int p = 0; p < 16; p++) b.due("as by 1, pointer " + p, b.x.pointer(p, 3), lengths[p]);
  }

  private static void seedsRefused() {
    b.about("The seed: true; false, refused (7), when it is below 0.");
    b.due("seed(0)", b.x.seed(0), true);
    b.due("the greatest", b.x.seed(MAX), true);
    int refused = 0;
    for (int seed : new int[] {-1, MIN}) {
      b.due("seed(" + seed + ")", b.x.seed(seed), false);
      b.due("status(7)", b.x.status(7), ++refused);
    }
    b.machine(M);
    x = MAX;
    int which = draw(3);
    int pointer = draw(15);
    b.due("the seed is as it was", b.x.chance(1), which < 2 ? 1 : 0);
    b.due("its length", b.x.pointer(pointer, 3), which < 2 ? draw(16) + 1 : 0);
    b.due("no act by a seed", b.x.has(9), 1);
  }
}
