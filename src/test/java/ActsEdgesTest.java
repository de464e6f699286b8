/** Pointers copied, moved, narrowed, limited, sealed, followed, shelved, at the edges: terms II, promises 9 and 28 to 37. */
public final class ActsEdgesTest {
  private static final int MIN = Integer.MIN_VALUE;
  private static final int MAX = Integer.MAX_VALUE;
  private static final int[] NO_POINTERS = {-1, 16, MIN, MAX};
  private static final Bench b = new Bench("ActsEdgesTest");
  private static int refused = 0;

  public static void main(String[] args) {
    eachPermit();
    moving();
    narrowing();
    within();
    narrowingTogether();
    following();
    trapped();
    keys();
    unsealingByAKey();
    fourPlaces();
    whatWasPutThere();
    copying();
    copyingRefused();
    steps();
    stepsRefused();
    narrowedLengths();
    narrowingRefused();
    limiting();
    limitingRefused();
    sealing();
    unsealing();
    loading();
    storing();
    shelving();
    taking();
    onAPlace();
    b.ends();
  }

  private static void begin(String words) {
    b.about(words);
    refused = 0;
  }

  private static void machine(String more) {
    b.due("machine", b.machine("memory 64 mantissa 4;" + more) > 0, true);
  }

  /** A call was refused: it was counted there, and was no act. */
  private static void refused(String what, boolean was, int status, int acts) {
    b.due(what + " is refused", was, true);
    b.due(what + ", status(" + status + ")", b.x.status(status), ++refused);
    b.due(what + " is no act", b.x.has(9), acts);
  }

  /** A pointer from an address on with a length, whatever it was, by pointer 15 that is at 0. */
  private static void point(int pointer, int base, int length) {
    b.x.copy(15, pointer);
    b.x.move(pointer, base);
    b.due("narrow to " + base + ", " + length, b.x.narrow(pointer, pointer, length), length);
  }

  /** A key of a kind: pointer 15 itself is at 0. */
  private static void key(int pointer, int kind) {
    b.x.copy(15, pointer);
    b.x.move(pointer, kind);
  }

  // ---- terms II

  private static void eachPermit() {
    begin("VALID or not, an address, E, B, T, permits (1 to load, 2 to store, 4 to seal, together), a KIND (0: not sealed).");
    machine("");
    for (int permits = 0; permits < 8; permits++) {
      key(1, 1);
      b.x.limit(1, permits);
      b.due("to load by " + permits, b.x.load(1) == 0, (permits & 1) != 0);
      b.due("to store by " + permits, b.x.store(1, 0), (permits & 2) != 0);
      b.x.copy(15, 2);
      b.due("to seal by " + permits, b.x.seal(2, 1) == 1, (permits & 4) != 0);
      b.due("its kind", b.x.pointer(2, 8), (permits & 4) != 0 ? 1 : 0);
      b.due("moved, if its kind is 0", b.x.move(2, 1), (permits & 4) == 0);
    }
  }

  private static void moving() {
    begin("TO MOVE one that is not sealed by a step: its address is that much on, modulo 4096; it is VALID no more, if its bounds as DECODED"
        + " from there are others.");
    machine("");
    point(0, 16, 8);
    b.due("to the first address of its window", b.x.move(0, -4), true);
    b.due("to the last one", b.x.move(0, 15), true);
    b.x.copy(0, 1);
    b.due("one on", b.x.move(0, 1), false);
    b.due("where it is then", b.x.pointer(0, 1), 28);
    b.due("it is not valid again within it", b.x.move(0, -8), false);
    b.due("one back from the first", b.x.move(1, -16), false);
    b.due("where it is then", b.x.pointer(1, 1), 11);
    b.due("around, back", b.x.move(0, -21), false);
    b.due("around, back", b.x.pointer(0, 1), 4095);
    b.due("around, on", b.x.move(0, 4095), false);
    b.due("around, on", b.x.pointer(0, 1), 4094);
    b.due("around, on", b.x.move(0, 2), false);
    b.due("around, on", b.x.pointer(0, 1), 0);
    b.due("the one of all goes around", b.x.move(15, -1), true);
    b.due("where it is", b.x.pointer(15, 1), 4095);
    b.due("its permits and bounds stay", b.x.pointer(15, 7) == 7 && b.x.pointer(15, 3) == 4096, true);
  }

  private static void narrowing() {
    begin("TO NARROW one that is VALID, not sealed, from its address on to a length (both together 4096 at most): another POINTER (or itself) is"
        + " as it is, but ENCODED so;");
    machine("");
    b.x.limit(15, 6);
    b.x.move(15, 21);
    b.due("another one", b.x.narrow(15, 3, 9), 10);
    b.pointerIs(3, 1, 21, 20, 10, 1, 10, 15, 6, 0);
    b.pointerIs(15, 1, 21, 0, 4096, 9, 0, 8, 6, 0);
    b.due("itself", b.x.narrow(15, 15, 8), 8);
    b.pointerIs(15, 1, 21, 21, 8, 0, 5, 13, 6, 0);
    b.due("nothing", b.x.narrow(15, 0, 0), 0);
    b.pointerIs(0, 1, 21, 21, 0, 0, 5, 5, 6, 0);
    b.due("nothing of nothing", b.x.narrow(0, 1, 0), 0);
    b.pointerIs(1, 1, 21, 21, 0, 0, 5, 5, 6, 0);
  }

  private static void within() {
    begin("the ROUNDED bounds must be within its own.");
    machine("");
    point(0, 20, 8);
    int acts = 3;
    b.due("all of it", b.x.narrow(0, 1, 8), 8);
    acts++;
    refused("one more", b.x.narrow(0, 1, 9) == -1, 3, acts);
    b.x.move(0, -1);
    acts++;
    refused("one below, nothing", b.x.narrow(0, 1, 0) == -1, 3, acts);
    refused("one below, one", b.x.narrow(0, 1, 1) == -1, 3, acts);
    refused("one below, all", b.x.narrow(0, 1, 9) == -1, 3, acts);
    b.x.move(0, 8);
    b.due("the last byte", b.x.narrow(0, 1, 1), 1);
    acts += 2;
    refused("the last byte and one", b.x.narrow(0, 1, 2) == -1, 3, acts);
    b.x.move(0, 1);
    b.due("at its end, nothing", b.x.narrow(0, 1, 0), 0);
    acts += 2;
    refused("at its end, one", b.x.narrow(0, 1, 1) == -1, 3, acts);
    b.x.move(0, 1);
    acts++;
    refused("behind its end, nothing", b.x.narrow(0, 1, 0) == -1, 3, acts);
    point(0, 20, 20);
    b.x.move(0, 3);
    b.due("rounded to all of it", b.x.narrow(0, 1, 17), 20);
    b.due("its base", b.x.pointer(1, 2), 20);
    acts += 5;
    refused("rounded beyond it", b.x.narrow(0, 1, 18) == -1, 3, acts);
  }

  private static void narrowingTogether() {
    begin("from its address on to a length (both together 4096 at most)");
    machine("");
    b.due("4096 from 0 on", b.x.narrow(15, 0, 4096), 4096);
    refused("4097 from 0 on", b.x.narrow(15, 0, 4097) == -1, 3, 1);
    b.x.move(15, 1);
    b.due("4095 from 1 on", b.x.narrow(15, 0, 4095), 4096);
    refused("4096 from 1 on", b.x.narrow(15, 0, 4096) == -1, 3, 3);
    b.x.move(15, 4094);
    b.due("1 from 4095 on", b.x.narrow(15, 0, 1), 1);
    b.pointerIs(0, 1, 4095, 4095, 1, 0, 15, 0, 7, 0);
    refused("2 from 4095 on", b.x.narrow(15, 0, 2) == -1, 3, 5);
    b.due("0 from 4095 on", b.x.narrow(15, 0, 0), 0);
  }

  private static void following() {
    begin("TO FOLLOW one: it is VALID, not sealed, its address is in its bounds and in memory, it has the permit, the TEST of traps does not hold.");
    machine("");
    point(0, 16, 8);
    int acts = 3;
    b.due("at its first byte", b.x.load(0), 0);
    b.x.move(0, -1);
    refused("one below", b.x.load(0) == -1, 5, ++acts);
    b.x.move(0, 8);
    b.due("at its last byte", b.x.load(0), 0);
    b.x.move(0, 1);
    acts += 2;
    refused("one above", b.x.load(0) == -1, 5, acts);
    b.x.move(0, -1);
    b.x.narrow(0, 1, 0);
    acts += 2;
    refused("in bounds of nothing", b.x.load(1) == -1, 5, acts);
    b.x.move(15, 63);
    b.due("at the last byte of memory", b.x.store(15, 1), true);
    b.x.move(15, 1);
    acts += 3;
    refused("behind memory, in its bounds", b.x.load(15) == -1, 5, acts);
    refused("behind memory, in its bounds", !b.x.store(15, 1), 5, acts);
    b.x.move(15, -64);
    b.due("at the first byte of memory", b.x.load(15), 0);
    acts++;
    for (int permits = 0; permits < 8; permits++) {
      b.x.copy(15, 2);
      b.x.limit(2, permits);
      acts += 2;
      if ((permits & 1) != 0) b.due("permits " + permits, b.x.load(2), 0);
      else refused("load by permits " + permits, b.x.load(2) == -1, 5, Math.min(20, acts));
      if ((permits & 2) != 0) b.due("permits " + permits, b.x.store(2, 0), true);
      else refused("store by permits " + permits, !b.x.store(2, 0), 5, Math.min(20, acts));
      acts += (permits & 2) != 0 ? 1 : 0;
    }
    point(0, 16, 8);
    key(3, 1);
    b.x.seal(0, 3);
    refused("sealed", b.x.load(0) == -1, 5, 20);
    refused("sealed", !b.x.store(0, 1), 5, 20);
    b.x.unseal(0, 3);
    b.x.move(0, 100);
    b.x.move(0, -100);
    refused("not valid, though at home", b.x.load(0) == -1, 5, 20);
    refused("not valid, though at home", !b.x.store(0, 1), 5, 20);
  }

  private static void trapped() {
    begin("the TEST of traps does not hold.");
    machine("traps at=17 or at>18 and perms=3;");
    point(0, 16, 8);
    b.due("at 16", b.x.load(0), 0);
    b.x.move(0, 1);
    refused("at 17, load", b.x.load(0) == -1, 5, 4);
    refused("at 17, store", !b.x.store(0, 1), 5, 4);
    b.x.move(0, 1);
    b.due("at 18", b.x.store(0, 1), true);
    b.x.move(0, 1);
    b.due("at 19, permits 7", b.x.store(0, 2), true);
    b.x.limit(0, 3);
    refused("at 19, permits 3", b.x.load(0) == -1, 5, 9);
    b.due("the byte is as it was", b.x.octetAt(19), 2);
  }

  private static void keys() {
    begin("TO SEAL one that is VALID, not sealed, by a KEY: a POINTER that is VALID, not sealed, with the permit to seal, whose address is in its"
        + " bounds and 1 .. 7: that is the KIND;");
    for (int kind = 0; kind <= 8; kind++) {
      b.fresh();
      refused = 0;
      machine("");
      b.x.alloc(0, 4);
      key(1, kind);
      if (kind >= 1 && kind <= 7) {
        b.due("the kind", b.x.seal(0, 1), kind);
        b.due("its kind", b.x.pointer(0, 8), kind);
        refused("sealed already", b.x.seal(0, 1) == -1, 4, 4);
      } else {
        refused("a key at " + kind, b.x.seal(0, 1) == -1, 4, 3);
      }
    }
    b.fresh();
    refused = 0;
    machine("");
    b.x.alloc(0, 4);
    key(1, 5);
    for (int permits = 0; permits < 4; permits++) {
      b.x.copy(1, 2);
      b.x.limit(2, permits);
      refused("a key of permits " + permits, b.x.seal(0, 2) == -1, 4, 5 + 2 * permits);
    }
    b.x.copy(1, 2);
    b.x.limit(2, 4);
    b.due("a key of permit 4 alone", b.x.seal(0, 2), 5);
    b.x.undo();
    b.x.narrow(1, 2, 1);
    b.due("a key at its only byte", b.x.seal(0, 2), 5);
    b.x.undo();
    b.x.move(2, 1);
    refused("a key behind its bounds", b.x.seal(0, 2) == -1, 4, 15);
    b.x.move(2, -2);
    refused("a key ahead of its bounds", b.x.seal(0, 2) == -1, 4, 16);
    b.x.narrow(1, 2, 0);
    refused("a key of no bytes", b.x.seal(0, 2) == -1, 4, 17);
    refused("a key that is not valid", b.x.seal(0, 3) == -1, 4, 17);
    refused("one that is not valid", b.x.seal(3, 1) == -1, 4, 17);
    b.due("a key by itself", b.x.seal(1, 1), 5);
    refused("a sealed key", b.x.seal(0, 1) == -1, 4, 18);
  }

  private static void unsealingByAKey() {
    begin("TO UNSEAL one that is VALID, of just that KIND.");
    machine("");
    b.x.alloc(0, 4);
    b.x.copy(0, 4);
    key(1, 3);
    key(2, 2);
    key(3, 4);
    b.x.seal(0, 1);
    int acts = 9;
    refused("a key of the kind below", !b.x.unseal(0, 2), 4, acts);
    refused("a key of the kind above", !b.x.unseal(0, 3), 4, acts);
    refused("one that is not sealed", !b.x.unseal(4, 1), 4, acts);
    b.due("a key of just that kind", b.x.unseal(0, 1), true);
    b.pointerIs(0, 1, 16, 16, 4, 0, 0, 4, 3, 0);
    b.x.seal(0, 1);
    b.x.copy(0, 5);
    b.x.free(4);
    refused("one that is not valid", !b.x.unseal(5, 1), 4, acts + 4);
    b.due("it is sealed still", b.x.pointer(5, 8), 3);
  }

  private static void fourPlaces() {
    begin("A SHELF has 4 places,");
    machine("shelf a kind 1;shelf b kind 1;");
    key(1, 1);
    b.x.alloc(0, 4);
    b.x.seal(0, 1);
    for (int place = 0; place < 4; place++) b.due("place " + place, b.x.shelve(0, 0), place);
    refused("a fifth", b.x.shelve(0, 0) == -1, 4, 8);
    b.due("the other shelf is empty", b.x.shelf(1, 0, 0), -1);
    for (int place = 0; place < 4; place++) {
      b.due("shelf(0, " + place + ", 0)", b.x.shelf(0, place, 0), 1);
      b.due("take(0, " + place + ", 5)", b.x.take(0, place, 5), true);
      b.due("shelf(0, " + place + ", 0)", b.x.shelf(0, place, 0), -1);
      b.due("the first empty place", b.x.shelve(0, 0), place);
    }
    b.x.take(0, 1, 5);
    b.x.take(0, 2, 5);
    b.due("of two empty ones the first", b.x.shelve(0, 0), 1);
    b.due("then the other", b.x.shelve(0, 0), 2);
    refused("none is empty", b.x.shelve(0, 0) == -1, 4, 20);
  }

  private static void whatWasPutThere() {
    begin("each empty or with what a POINTER was when it was put there; it takes VALID ones of its KIND alone.");
    machine("shelf a kind 1;shelf b kind 7;");
    key(1, 1);
    key(7, 7);
    b.x.alloc(0, 4);
    b.x.copy(0, 2);
    b.x.copy(0, 3);
    b.x.seal(2, 1);
    int acts = 8;
    refused("not sealed", b.x.shelve(0, 0) == -1, 4, acts);
    refused("of another kind", b.x.shelve(2, 1) == -1, 4, acts);
    refused("never was", b.x.shelve(9, 0) == -1, 4, acts);
    b.due("of its kind", b.x.shelve(2, 0), 0);
    b.x.unseal(2, 1);
    b.x.move(2, 3);
    b.x.limit(2, 0);
    int[] want = {1, 16, 16, 4, 0, 0, 4, 3, 1};
    for (int what = 0; what < 9; what++) b.due("shelf(0, 0, " + what + ")", b.x.shelf(0, 0, what), want[what]);
    b.x.seal(3, 7);
    b.due("of its kind", b.x.shelve(3, 1), 0);
    b.x.free(0);
    refused("not valid", b.x.shelve(3, 1) == -1, 4, acts + 7);
    b.due("what lies there is not valid", b.x.shelf(1, 0, 0), 0);
  }

  // ---- promises

  private static void copying() {
    begin("A POINTER (sealed or not) is copied to another one: true;");
    machine("");
    key(1, 2);
    b.x.alloc(0, 4);
    b.x.seal(0, 1);
    b.due("a sealed one", b.x.copy(0, 15), true);
    b.pointerIs(15, 1, 16, 16, 4, 0, 0, 4, 3, 2);
    b.due("over a sealed one", b.x.copy(1, 15), true);
    b.pointerIs(15, 1, 2, 0, 4096, 9, 0, 8, 7, 0);
    b.due("one that is not valid", b.x.copy(9, 15), true);
    b.pointerIs(15, 0, 0, 0, 0, 0, 0, 0, 0, 0);
    b.due("the one that is copied stays", b.x.pointer(0, 8), 2);
    b.due("each is an act", b.x.has(9), 7);
    b.x.move(15, 5);
    b.due("it is another one", b.x.pointer(9, 1), 0);
  }

  private static void copyingRefused() {
    begin("false, refused (3), when they are one, or there are none such.");
    refused("without a machine", !b.x.copy(0, 1), 3, 0);
    machine("");
    for (int p : new int[] {0, 15}) refused("copy(" + p + ", " + p + ")", !b.x.copy(p, p), 3, 0);
    for (int p : NO_POINTERS) {
      refused("copy(" + p + ", 0)", !b.x.copy(p, 0), 3, 0);
      refused("copy(15, " + p + ")", !b.x.copy(15, p), 3, 0);
      refused("copy(" + p + ", " + p + ")", !b.x.copy(p, p), 3, 0);
    }
    b.due("copy(15, 0)", b.x.copy(15, 0), true);
    b.due("copy(0, 15)", b.x.copy(0, 15), true);
  }

  private static void steps() {
    begin("A POINTER is MOVED by a step (-4095 .. 4095): whether it is VALID then;");
    machine("");
    b.due("4095 on", b.x.move(15, 4095), true);
    b.due("4095 back", b.x.move(15, -4095), true);
    b.due("it is at 0", b.x.pointer(15, 1), 0);
    b.due("not at all", b.x.move(15, 0), true);
    b.due("one that is not valid", b.x.move(0, 0), false);
    b.due("it is moved all the same", b.x.move(0, 7), false);
    b.due("where it is", b.x.pointer(0, 1), 7);
    b.due("none is refused", b.x.status(3), 0);
    b.due("each is an act", b.x.has(9), 5);
    b.due("nothing is kept of one that was not valid", b.x.has(7), 0);
  }

  private static void stepsRefused() {
    begin("false, refused (3), when it is sealed, the step can't be, or there is none such.");
    refused("without a machine", !b.x.move(15, 0), 3, 0);
    machine("");
    for (int step : new int[] {-4096, 4096, MIN, MAX}) refused("move(15, " + step + ")", !b.x.move(15, step), 3, 0);
    for (int p : NO_POINTERS) refused("move(" + p + ", 1)", !b.x.move(p, 1), 3, 0);
    key(1, 2);
    b.x.copy(1, 2);
    b.x.seal(2, 1);
    refused("sealed", !b.x.move(2, 1), 3, 4);
    refused("sealed, not at all", !b.x.move(2, 0), 3, 4);
    b.pointerIs(2, 1, 2, 0, 4096, 9, 0, 8, 7, 2);
  }

  private static void narrowedLengths() {
    begin("A POINTER is NARROWED to a length (0 .. 4096), into another one (or itself): the ROUNDED length;");
    machine("");
    int[][] rows = {{0, 0}, {1, 1}, {8, 8}, {9, 10}, {16, 16}, {17, 20}, {4095, 4096}, {4096, 4096}};
    for (int[] r : rows) b.due("narrow(15, 0, " + r[0] + ")", b.x.narrow(15, 0, r[0]), r[1]);
    b.due("itself", b.x.narrow(15, 15, 4096), 4096);
    b.due("itself", b.x.narrow(15, 15, 9), 10);
  }

  private static void narrowingRefused() {
    begin("the ROUNDED length; NONE, refused (3), when it can't be, or there are none such.");
    refused("without a machine", b.x.narrow(15, 0, 1) == -1, 3, 0);
    machine("");
    for (int length : new int[] {-1, 4097, MIN, MAX}) refused("length " + length, b.x.narrow(15, 0, length) == -1, 3, 0);
    for (int p : NO_POINTERS) {
      refused("narrow(" + p + ", 0, 1)", b.x.narrow(p, 0, 1) == -1, 3, 0);
      refused("narrow(15, " + p + ", 1)", b.x.narrow(15, p, 1) == -1, 3, 0);
    }
    refused("one that is not valid", b.x.narrow(0, 1, 0) == -1, 3, 0);
    key(1, 2);
    b.x.copy(1, 2);
    b.x.seal(2, 1);
    refused("a sealed one", b.x.narrow(2, 0, 1) == -1, 3, 4);
    refused("a sealed one, itself", b.x.narrow(2, 2, 1) == -1, 3, 4);
    b.due("into a sealed one", b.x.narrow(1, 2, 1), 1);
    b.pointerIs(2, 1, 2, 2, 1, 0, 2, 3, 7, 0);
  }

  private static void limiting() {
    begin("A POINTER that is not sealed has those permits alone that it has and that are told (0 .. 7): how many bits it has then, as they are;");
    machine("");
    for (int has = 0; has < 8; has++) {
      for (int told = 0; told < 8; told++) {
        b.x.copy(15, 0);
        b.due("to " + has, b.x.limit(0, has), has);
        b.due(has + " by " + told, b.x.limit(0, told), has & told);
        b.due("its permits", b.x.pointer(0, 7), has & told);
        b.due("valid still", b.x.pointer(0, 0), 1);
      }
    }
    b.due("one that is not valid", b.x.limit(9, 7), 0);
  }

  private static void limitingRefused() {
    begin("NONE, refused (3), when it is sealed, or there are none such.");
    refused("without a machine", b.x.limit(15, 7) == -1, 3, 0);
    machine("");
    for (int perms : new int[] {-1, 8, MIN, MAX}) refused("limit(15, " + perms + ")", b.x.limit(15, perms) == -1, 3, 0);
    for (int p : NO_POINTERS) refused("limit(" + p + ", 0)", b.x.limit(p, 0) == -1, 3, 0);
    key(1, 2);
    b.x.copy(1, 2);
    b.x.seal(2, 1);
    refused("sealed", b.x.limit(2, 0) == -1, 3, 4);
    b.due("its permits stay", b.x.pointer(2, 7), 7);
    b.due("those of 15 stay", b.x.pointer(15, 7), 7);
  }

  private static void sealing() {
    begin("A POINTER is SEALED by a KEY: the KIND; NONE, refused (4), when it can't be, or there are none such.");
    refused("without a machine", b.x.seal(0, 15) == -1, 4, 0);
    machine("");
    key(1, 7);
    for (int p : NO_POINTERS) {
      refused("seal(" + p + ", 1)", b.x.seal(p, 1) == -1, 4, 2);
      refused("seal(15, " + p + ")", b.x.seal(15, p) == -1, 4, 2);
    }
    refused("one that is not valid", b.x.seal(0, 1) == -1, 4, 2);
    b.due("the kind", b.x.seal(15, 1), 7);
    b.pointerIs(15, 1, 0, 0, 4096, 9, 0, 8, 7, 7);
    refused("sealed already", b.x.seal(15, 1) == -1, 4, 3);
  }

  private static void unsealing() {
    begin("A POINTER is UNSEALED by a KEY: true; false, refused (4), when it can't be, or there are none such.");
    refused("without a machine", !b.x.unseal(0, 15), 4, 0);
    machine("");
    key(1, 7);
    key(2, 6);
    b.x.seal(15, 1);
    for (int p : NO_POINTERS) {
      refused("unseal(" + p + ", 1)", !b.x.unseal(p, 1), 4, 5);
      refused("unseal(15, " + p + ")", !b.x.unseal(15, p), 4, 5);
    }
    refused("by another kind", !b.x.unseal(15, 2), 4, 5);
    refused("not sealed", !b.x.unseal(2, 1), 4, 5);
    refused("by none", !b.x.unseal(15, 9), 4, 5);
    refused("by itself", !b.x.unseal(15, 15), 4, 5);
    b.x.move(1, 1);
    refused("by a key at 8", !b.x.unseal(15, 1), 4, 6);
    b.x.move(1, -1);
    b.x.limit(1, 3);
    refused("by a key without the permit", !b.x.unseal(15, 1), 4, 8);
    b.x.undo();
    b.due("unseal", b.x.unseal(15, 1), true);
    b.due("its kind", b.x.pointer(15, 8), 0);
  }

  private static void loading() {
    begin("The byte that a POINTER is FOLLOWED to by the permit to load; NONE, refused (5), when it can't be, or there is none such.");
    refused("without a machine", b.x.load(15) == -1, 5, 0);
    machine("");
    for (int p : NO_POINTERS) refused("load(" + p + ")", b.x.load(p) == -1, 5, 0);
    refused("one that is not valid", b.x.load(0) == -1, 5, 0);
    for (int value : new int[] {0, 1, 127, 128, 255}) {
      b.x.store(15, value);
      b.due("the byte", b.x.load(15), value);
    }
    b.due("to load is no act", b.x.has(9), 5);
    b.x.limit(15, 6);
    refused("without the permit", b.x.load(15) == -1, 5, 6);
  }

  private static void storing() {
    begin("A byte (0 .. 255) is stored where a POINTER is FOLLOWED to by the permit to store: true; false, refused (5), when it can't be, or there"
        + " are none such.");
    refused("without a machine", !b.x.store(15, 1), 5, 0);
    machine("");
    b.due("0", b.x.store(15, 0), true);
    b.due("255", b.x.store(15, 255), true);
    for (int value : new int[] {-1, 256, MIN, MAX}) refused("store(15, " + value + ")", !b.x.store(15, value), 5, 2);
    for (int p : NO_POINTERS) refused("store(" + p + ", 1)", !b.x.store(p, 1), 5, 2);
    refused("one that is not valid", !b.x.store(0, 1), 5, 2);
    b.due("the byte", b.x.octetAt(0), 255);
    b.x.limit(15, 5);
    refused("without the permit", !b.x.store(15, 1), 5, 3);
    b.due("the byte stays", b.x.octetAt(0), 255);
    b.due("the others, too", b.x.octetAt(1), 0);
  }

  private static void shelving() {
    begin("What a POINTER is is put on the first empty place of a SHELF: the place; NONE, refused (4), when the SHELF does not take it, has none"
        + " empty, or there are none such.");
    refused("without a machine", b.x.shelve(0, 0) == -1, 4, 0);
    machine("shelf a kind 2;");
    key(1, 2);
    b.x.alloc(0, 1);
    b.x.seal(0, 1);
    for (int p : NO_POINTERS) refused("shelve(" + p + ", 0)", b.x.shelve(p, 0) == -1, 4, 4);
    for (int s : new int[] {-1, 1, 4, MIN, MAX}) refused("shelve(0, " + s + ")", b.x.shelve(0, s) == -1, 4, 4);
    refused("one that it does not take", b.x.shelve(1, 0) == -1, 4, 4);
    for (int place = 0; place < 4; place++) b.due("the place", b.x.shelve(0, 0), place);
    refused("none empty", b.x.shelve(0, 0) == -1, 4, 8);
    b.pointerIs(0, 1, 16, 16, 1, 0, 0, 1, 3, 2);
  }

  private static void taking() {
    begin("What lies on a place of a SHELF is taken: the POINTER is that then, the place is empty; false, refused (4), when it is empty already, or"
        + " there are none such.");
    refused("without a machine", !b.x.take(0, 0, 0), 4, 0);
    machine("shelf a kind 2;shelf b kind 2;");
    key(1, 2);
    b.x.alloc(0, 1);
    b.x.seal(0, 1);
    b.x.shelve(0, 1);
    for (int s : new int[] {-1, 2, 4, MIN, MAX}) refused("take(" + s + ", 0, 5)", !b.x.take(s, 0, 5), 4, 5);
    for (int place : new int[] {-1, 4, MIN, MAX}) refused("take(1, " + place + ", 5)", !b.x.take(1, place, 5), 4, 5);
    refused("place 4 of the shelf ahead", !b.x.take(0, 4, 5), 4, 5);
    for (int p : NO_POINTERS) refused("take(1, 0, " + p + ")", !b.x.take(1, 0, p), 4, 5);
    for (int place = 1; place < 4; place++) refused("an empty place", !b.x.take(1, place, 5), 4, 5);
    b.due("take", b.x.take(1, 0, 1), true);
    b.pointerIs(1, 1, 16, 16, 1, 0, 0, 1, 3, 2);
    b.due("the place is empty", b.x.shelf(1, 0, 0), -1);
    refused("empty already", !b.x.take(1, 0, 1), 4, 6);
  }

  private static void onAPlace() {
    begin("Of what lies on a place (0 .. 3) of a SHELF the same. NONE when it is empty, there is none such, or for others.");
    b.due("without a machine", b.x.shelf(0, 0, 0), -1);
    machine("shelf a kind 2;shelf b kind 3;");
    key(1, 2);
    b.x.alloc(0, 9);
    b.x.move(0, 2);
    b.x.seal(0, 1);
    for (int place = 0; place < 4; place++) b.x.shelve(0, 0);
    int[] want = {1, 18, 16, 10, 1, 8, 13, 3, 2};
    for (int place : new int[] {0, 3}) {
      for (int what = 0; what < 9; what++) b.due("shelf(0, " + place + ", " + what + ")", b.x.shelf(0, place, what), want[what]);
      for (int what : new int[] {-1, 9, MIN, MAX}) b.due("shelf(0, " + place + ", " + what + ")", b.x.shelf(0, place, what), -1);
    }
    for (int place : new int[] {-1, 4, MIN, MAX}) b.due("shelf(0, " + place + ", 0)", b.x.shelf(0, place, 0), -1);
    for (int place = -1; place <= 4; place++) b.due("empty, or none such", b.x.shelf(1, place, 0), -1);
    for (int s : new int[] {-1, 2, 3, 4, MIN, MAX}) b.due("shelf(" + s + ", 0, 0)", b.x.shelf(s, 0, 0), -1);
    machine("");
    b.due("without a shelf", b.x.shelf(0, 0, 0), -1);
  }
}
