/** Promises 28 to 40: copy to seed, of which alloc and free are in HeapTest. */
public final class ActsTest {
  private static final Bench b = new Bench("ActsTest");

  public static void main(String[] args) {
    withoutAMachine();
    copying();
    moving();
    narrowing();
    limiting();
    sealing();
    following();
    trapping();
    shelving();
    bySeed();
    undoing();
    undoingEach();
    b.ends();
  }

  private static void withoutAMachine() {
    b.fresh();
    b.due("copy", b.x.copy(0, 1), false);
    b.due("move", b.x.move(0, 1), false);
    b.due("narrow", b.x.narrow(0, 1, 1), -1);
    b.due("limit", b.x.limit(0, 1), -1);
    b.due("status(3)", b.x.status(3), 4);
    b.due("seal", b.x.seal(0, 1), -1);
    b.due("unseal", b.x.unseal(0, 1), false);
    b.due("shelve", b.x.shelve(0, 0), -1);
    b.due("take", b.x.take(0, 0, 0), false);
    b.due("status(4)", b.x.status(4), 4);
    b.due("load", b.x.load(0), -1);
    b.due("store", b.x.store(0, 0), false);
    b.due("status(5)", b.x.status(5), 2);
    b.due("chance", b.x.chance(1), -1);
    b.due("status(2)", b.x.status(2), 1);
    b.due("undo", b.x.undo(), false);
    b.due("status(6)", b.x.status(6), 1);
    b.due("seed", b.x.seed(0), true);
    b.due("seed", b.x.seed(-1), false);
    b.due("seed", b.x.seed(Integer.MIN_VALUE), false);
    b.due("seed", b.x.seed(Integer.MAX_VALUE), true);
    b.due("status(7)", b.x.status(7), 2);
  }

  private static void copying() {
    b.machine("memory 64 mantissa 4;");
    b.x.alloc(0, 5);
    b.due("copy(0, 1)", b.x.copy(0, 1), true);
    b.pointerIs(1, 1, 16, 16, 5, 0, 0, 5, 3, 0);
    b.due("copy of one not valid", b.x.copy(7, 1), true);
    b.pointerIs(1, 0, 0, 0, 0, 0, 0, 0, 0, 0);
    b.due("copy over 15", b.x.copy(0, 15), true);
    b.pointerIs(15, 1, 16, 16, 5, 0, 0, 5, 3, 0);
    int before = b.x.status(3);
    b.due("copy(3, 3)", b.x.copy(3, 3), false);
    b.due("copy(-1, 3)", b.x.copy(-1, 3), false);
    b.due("copy(3, 16)", b.x.copy(3, 16), false);
    b.due("status(3)", b.x.status(3), before + 3);
    b.due("acts", b.x.has(9), 4);
    // A copy is a pointer of its own.
    b.x.move(15, 2);
    b.due("the one copied", b.x.pointer(0, 1), 16);
  }

  private static void moving() {
    b.machine("memory 64 mantissa 4;shelf s kind 3;");
    b.x.alloc(0, 8);
    b.due("to the first address of its window", b.x.move(0, -4), true);
    b.due("to the last", b.x.move(0, 15), true);
    b.due("out of it", b.x.move(0, 1), false);
    b.pointerIs(0, 0, 28, 32, 8, 0, 0, 8, 3, 0);
    b.due("back, it is not valid again", b.x.move(0, -1), false);
    b.due("around", b.x.move(0, -28), false);
    b.due("around", b.x.pointer(0, 1), 4095);
    b.due("around", b.x.move(0, 2), false);
    b.due("around", b.x.pointer(0, 1), 1);
    b.due("far", b.x.move(15, 4095), true);
    b.due("far", b.x.move(15, -4095), true);
    b.due("none", b.x.move(15, 0), true);
    b.due("acts", b.x.has(9), 10);
    int before = b.x.status(3);
    b.due("too far", b.x.move(15, 4096), false);
    b.due("too far", b.x.move(15, -4096), false);
    b.due("move(16, 0)", b.x.move(16, 0), false);
    b.due("move(-1, 0)", b.x.move(-1, 0), false);
    b.x.move(15, 3);
    b.x.copy(15, 1);
    b.x.seal(1, 15);
    b.due("sealed", b.x.move(1, 1), false);
    b.due("status(3)", b.x.status(3), before + 5);
    b.due("it is not moved", b.x.pointer(1, 1), 3);
    b.due("it is valid", b.x.pointer(1, 0), 1);
  }

  private static void narrowing() {
    b.machine("memory 256 mantissa 4;");
    b.x.alloc(0, 32);
    b.pointerIs(0, 1, 16, 16, 32, 2, 4, 12, 3, 0);
    b.due("narrow(0, 1, 8)", b.x.narrow(0, 1, 8), 8);
    b.pointerIs(1, 1, 16, 16, 8, 0, 0, 8, 3, 0);
    b.x.move(0, 5);
    b.due("rounded within", b.x.narrow(0, 2, 9), 10);
    b.pointerIs(2, 1, 21, 20, 10, 1, 10, 15, 3, 0);
    b.due("to nothing", b.x.narrow(0, 3, 0), 0);
    b.pointerIs(3, 1, 21, 21, 0, 0, 5, 5, 3, 0);
    b.due("one byte", b.x.narrow(0, 3, 1), 1);
    b.due("to its end", b.x.narrow(0, 3, 27), 28);
    b.pointerIs(3, 1, 21, 20, 28, 2, 5, 12, 3, 0);
    int before = b.x.status(3);
    b.due("beyond its end", b.x.narrow(0, 3, 28), -1);
    // From 17 on 15 bytes are rounded to 16 .. 32, within; of the narrowed one they are not.
    b.x.narrow(0, 4, 3);
    b.due("no more than before", b.x.narrow(4, 4, 4), -1);
    b.due("no more than before", b.x.narrow(4, 4, 3), 3);
    b.due("below 0", b.x.narrow(0, 3, -1), -1);
    b.due("above 4096", b.x.narrow(15, 3, 4097), -1);
    b.due("all", b.x.narrow(15, 3, 4096), 4096);
    b.x.move(15, 1);
    b.due("together above 4096", b.x.narrow(15, 3, 4096), -1);
    b.due("together 4096", b.x.narrow(15, 3, 4095), 4096);
    b.due("not valid", b.x.narrow(9, 3, 0), -1);
    b.due("narrow(16, 0, 0)", b.x.narrow(16, 0, 0), -1);
    b.due("narrow(0, 16, 0)", b.x.narrow(0, 16, 0), -1);
    b.due("narrow(-1, 0, 0)", b.x.narrow(-1, 0, 0), -1);
    b.due("status(3)", b.x.status(3), before + 9);
    b.x.copy(15, 5);
    b.x.copy(15, 6);
    b.x.seal(5, 15);
    b.due("sealed", b.x.narrow(5, 6, 1), -1);
    b.due("into a sealed one", b.x.narrow(6, 5, 1), 1);
    b.pointerIs(5, 1, 1, 1, 1, 0, 1, 2, 7, 0);
    outOfItsBounds();
  }

  /** The address may be out of the bounds; the rounded bounds may not. */
  private static void outOfItsBounds() {
    b.machine("memory 256 mantissa 4;");
    b.x.alloc(0, 8);
    b.x.move(0, 8);
    b.due("at its end, nothing", b.x.narrow(0, 1, 0), 0);
    b.pointerIs(1, 1, 24, 24, 0, 0, 8, 8, 3, 0);
    b.due("at its end, one", b.x.narrow(0, 1, 1), -1);
    b.x.move(0, 1);
    b.due("behind its end, nothing", b.x.narrow(0, 1, 0), -1);
    b.x.move(0, -10);
    b.due("ahead of it", b.x.narrow(0, 1, 2), -1);
    b.x.move(0, 2);
    b.due("from one on", b.x.narrow(0, 1, 7), 7);
    b.due("from one on, one too many", b.x.narrow(0, 1, 8), -1);
  }

  private static void limiting() {
    b.machine("memory 64 mantissa 4;");
    b.due("limit(15, 7)", b.x.limit(15, 7), 7);
    b.due("limit(15, 6)", b.x.limit(15, 6), 6);
    b.due("limit(15, 3)", b.x.limit(15, 3), 2);
    b.due("permits", b.x.pointer(15, 7), 2);
    b.due("load by it", b.x.load(15), -1);
    b.due("store by it", b.x.store(15, 1), true);
    b.due("limit(15, 0)", b.x.limit(15, 0), 0);
    b.due("valid still", b.x.pointer(15, 0), 1);
    b.due("not valid", b.x.limit(3, 7), 0);
    b.due("acts", b.x.has(9), 6);
    int before = b.x.status(3);
    b.due("limit(15, 8)", b.x.limit(15, 8), -1);
    b.due("limit(15, -1)", b.x.limit(15, -1), -1);
    b.due("limit(16, 1)", b.x.limit(16, 1), -1);
    b.due("limit(-1, 1)", b.x.limit(-1, 1), -1);
    b.machine("memory 64 mantissa 4;");
    b.x.move(15, 1);
    b.x.copy(15, 0);
    b.x.seal(0, 15);
    b.due("sealed", b.x.limit(0, 1), -1);
    b.due("status(3)", b.x.status(3), before + 5);
    b.due("permits stay", b.x.pointer(0, 7), 7);
  }

  private static void sealing() {
    b.machine("memory 64 mantissa 4;");
    b.x.alloc(0, 4);
    b.x.copy(15, 1);
    int before = b.x.status(4);
    b.due("a key at 0", b.x.seal(0, 1), -1);
    b.x.move(1, 8);
    b.due("a key at 8", b.x.seal(0, 1), -1);
    b.x.move(1, -1);
    b.due("a key at 7", b.x.seal(0, 1), 7);
    b.due("its kind", b.x.pointer(0, 8), 7);
    b.due("sealed already", b.x.seal(0, 1), -1);
    b.due("not valid", b.x.seal(2, 1), -1);
    b.due("a key that is not valid", b.x.seal(1, 2), -1);
    b.due("a key that is none", b.x.seal(1, 16), -1);
    b.due("one that is none", b.x.seal(-1, 1), -1);
    b.due("free, sealed", b.x.free(0), -1);
    b.due("load, sealed", b.x.load(0), -1);
    b.x.move(1, -6);
    b.due("a key of another kind", b.x.unseal(0, 1), false);
    b.x.move(1, 6);
    b.x.copy(1, 3);
    b.x.limit(3, 3);
    b.due("a key without the permit", b.x.unseal(0, 3), false);
    b.due("unseal(16, 1)", b.x.unseal(16, 1), false);
    b.due("unseal(0, -1)", b.x.unseal(0, -1), false);
    b.due("unseal(-1, 1)", b.x.unseal(-1, 1), false);
    b.due("unseal(0, 1)", b.x.unseal(0, 1), true);
    b.due("its kind", b.x.pointer(0, 8), 0);
    b.due("not sealed", b.x.unseal(0, 1), false);
    b.due("status(4)", b.x.status(4), before + 13);
    // A key out of its bounds.
    b.x.move(1, -2);
    b.x.narrow(1, 4, 1);
    b.due("a key in its bounds", b.x.seal(0, 4), 5);
    b.x.move(4, 1);
    b.x.move(1, 1);
    b.x.alloc(5, 1);
    b.due("still valid", b.x.pointer(4, 0), 1);
    b.due("a key out of its bounds", b.x.seal(5, 4), -1);
    b.due("a key in them", b.x.seal(5, 1), 6);
    b.due("a key by itself", b.x.seal(1, 1), 6);
    b.due("a sealed key", b.x.unseal(5, 1), false);
    // Sealed ones are valid no more when their object is freed; then none is unsealed.
    b.machine("memory 64 mantissa 4;");
    b.x.move(15, 2);
    b.x.alloc(0, 4);
    b.x.copy(0, 1);
    b.x.seal(1, 15);
    b.x.free(0);
    b.due("unseal of one not valid", b.x.unseal(1, 15), false);
  }

  private static void following() {
    b.machine("memory 64 mantissa 4;");
    b.x.alloc(0, 4);
    b.due("load", b.x.load(0), 0);
    b.due("no act", b.x.has(9), 1);
    b.due("store(0, 255)", b.x.store(0, 255), true);
    b.due("load", b.x.load(0), 255);
    b.due("load by another", b.x.load(15), 0);
    int before = b.x.status(5);
    b.due("store(0, 256)", b.x.store(0, 256), false);
    b.due("store(0, -1)", b.x.store(0, -1), false);
    b.due("store(16, 1)", b.x.store(16, 1), false);
    b.due("store(-1, 1)", b.x.store(-1, 1), false);
    b.due("load(16)", b.x.load(16), -1);
    b.due("load(-1)", b.x.load(-1), -1);
    b.due("load(1)", b.x.load(1), -1);
    b.x.move(0, 3);
    b.due("at its last byte", b.x.load(0), 0);
    b.x.move(0, 1);
    b.due("behind it", b.x.load(0), -1);
    b.due("behind it", b.x.store(0, 1), false);
    b.x.move(0, -5);
    b.due("ahead of it", b.x.load(0), -1);
    b.x.move(15, 63);
    b.due("at the last of memory", b.x.store(15, 3), true);
    b.x.move(15, 1);
    b.due("behind memory", b.x.load(15), -1);
    b.due("behind memory", b.x.store(15, 3), false);
    b.x.move(0, 1);
    b.x.limit(0, 2);
    b.due("without the permit to load", b.x.load(0), -1);
    b.due("with the one to store", b.x.store(0, 7), true);
    b.due("status(5)", b.x.status(5), before + 13);
  }

  private static void trapping() {
    b.machine("memory 64 mantissa 4;traps at=17 or base<16 and perms=7 and length>4095;");
    b.x.alloc(0, 4);
    b.due("not trapped", b.x.load(0), 0);
    b.x.move(0, 1);
    b.due("trapped", b.x.load(0), -1);
    b.due("trapped", b.x.store(0, 1), false);
    b.x.move(0, 1);
    b.due("not trapped", b.x.store(0, 1), true);
    b.due("trapped", b.x.load(15), -1);
    b.x.limit(15, 3);
    b.due("not trapped", b.x.load(15), 0);
    b.machine("memory 64 mantissa 4;traps all;");
    b.x.alloc(0, 4);
    b.due("all are trapped", b.x.load(0), -1);
    b.machine("memory 64 mantissa 4;traps not[at>base or at<base]and not length=4;");
    b.x.alloc(0, 4);
    b.x.alloc(1, 5);
    b.due("not trapped", b.x.load(0), 0);
    b.due("trapped", b.x.load(1), -1);
    b.x.move(1, 1);
    b.due("not trapped", b.x.load(1), 0);
  }

  private static void shelving() {
    b.machine("memory 64 mantissa 4;shelf a kind 2;shelf b kind 3;");
    b.x.alloc(0, 4);
    b.x.move(15, 2);
    int before = b.x.status(4);
    b.due("not sealed", b.x.shelve(0, 0), -1);
    b.x.seal(0, 15);
    b.due("of another kind", b.x.shelve(0, 1), -1);
    b.due("shelve(0, 2)", b.x.shelve(0, 2), -1);
    b.due("shelve(0, -1)", b.x.shelve(0, -1), -1);
    b.due("shelve(16, 0)", b.x.shelve(16, 0), -1);
    for (int i = 0; i < 4; i++) b.due("shelve", b.x.shelve(0, 0), i);
    b.due("none empty", b.x.shelve(0, 0), -1);
    b.due("it stays as it is", b.x.pointer(0, 8), 2);
    b.due("take(0, 4, 1)", b.x.take(0, 4, 1), false);
    b.due("take(0, -1, 1)", b.x.take(0, -1, 1), false);
    b.due("take(2, 0, 1)", b.x.take(2, 0, 1), false);
    b.due("take(0, 0, 16)", b.x.take(0, 0, 16), false);
    b.due("empty", b.x.take(1, 0, 1), false);
    b.due("take(0, 1, 5)", b.x.take(0, 1, 5), true);
    b.pointerIs(5, 1, 16, 16, 4, 0, 0, 4, 3, 2);
    b.due("empty then", b.x.take(0, 1, 5), false);
    b.due("the first empty place", b.x.shelve(5, 0), 1);
    b.due("status(4)", b.x.status(4), before + 12);
    b.x.unseal(0, 15);
    b.x.free(0);
    b.due("not valid", b.x.shelve(5, 0), -1);
    b.due("taken all the same", b.x.take(0, 0, 6), true);
    b.pointerIs(6, 0, 16, 16, 4, 0, 0, 4, 3, 2);
    b.due("not valid", b.x.shelve(6, 0), -1);
  }

  /** From 1 on the seed becomes 1103527590, 377401575, 662824084, 1147902781, 2035015474, 368800899, .. */
  private static void bySeed() {
    b.fresh();
    b.machine("memory 64 mantissa 8;");
    b.due("chance(3)", b.x.chance(3), 2);
    b.pointerIs(9, 1, 16, 16, 3, 0, 16, 19, 3, 0);
    b.pointerIs(11, 1, 19, 19, 3, 0, 19, 22, 3, 0);
    b.due("objects", b.x.has(3), 2);
    b.due("one act", b.x.has(9), 1);
    b.due("undo", b.x.undo(), true);
    b.due("objects", b.x.has(3), 0);
    // The seed stays where it was: again from 1 on, but for the three told above.
    b.due("seed", b.x.seed(1), true);
    b.due("chance(1)", b.x.chance(1), 1);
    b.due("pointer 9", b.x.pointer(9, 3), 3);
    b.x.undo();
    b.due("chance(1)", b.x.chance(1), 1);
    b.due("pointer 11, the seed stays by undo", b.x.pointer(11, 1), 16);
    int before = b.x.status(2);
    b.due("chance(0)", b.x.chance(0), -1);
    b.due("chance(41)", b.x.chance(41), -1);
    b.due("chance(-1)", b.x.chance(-1), -1);
    b.due("status(2)", b.x.status(2), before + 3);
    b.due("what can't be is not refused", b.x.chance(40) <= 40, true);
    b.due("status(2)", b.x.status(2), before + 3);
    b.machine("memory 64 mantissa 8;");
    // 1341714958 by 64 modulo 3 is 2: by a pointer that is not valid there is nothing freed.
    b.x.seed(9);
    b.due("nothing done", b.x.chance(1), 0);
    b.due("an act all the same", b.x.has(9), 1);
  }

  private static void undoing() {
    b.machine("memory 64 mantissa 4;");
    b.due("none", b.x.undo(), false);
    b.due("alloc", b.x.alloc(0, 8), 16);
    for (int i = 1; i <= 25; i++) b.x.store(0, i);
    b.due("has(9)", b.x.has(9), 20);
    for (int i = 1; i <= 20; i++) {
      b.due("undo", b.x.undo(), true);
      b.due("the byte ahead of it", b.x.octetAt(16), 25 - i);
    }
    b.due("a 21st", b.x.undo(), false);
    b.due("the byte", b.x.octetAt(16), 5);
    b.x.store(0, 77);
    b.x.load(0);
    b.x.copy(0, 0);
    b.due("what is refused is no act", b.x.has(9), 1);
    b.due("undo", b.x.undo(), true);
    b.due("the byte", b.x.octetAt(16), 5);
  }

  private static String image() {
    StringBuilder s = new StringBuilder();
    int length = b.x.image();
    for (int i = 0; i < length; i++) s.append(b.x.octet(i)).append(' ');
    for (int a = 0; a < 64; a++) s.append(b.x.octetAt(a)).append(' ');
    for (int k = 0; k < b.x.has(7); k++) s.append(b.x.kept(k, 0)).append(b.x.kept(k, 1)).append(b.x.kept(k, 2));
    return s.toString();
  }

  /** Every kind of act, one behind another, then all of them back. */
  private static void undoingEach() {
    b.machine("memory 64 mantissa 4;shelf s kind 2;");
    String[] states = new String[14];
    for (int i = 0; i < 13; i++) {
      states[i] = image();
      b.due("act " + i, act(i), true);
      b.due("acts", b.x.has(9), i + 1);
    }
    for (int i = 12; i >= 0; i--) {
      b.due("undo", b.x.undo(), true);
      b.due("as ahead of act " + i, image().equals(states[i]), true);
    }
  }

  private static boolean act(int i) {
    switch (i) {
      case 0: return b.x.alloc(0, 8) == 16;
      case 1: return b.x.store(0, 9);
      case 2: return b.x.copy(0, 1);
      case 3: return b.x.move(1, 3);
      case 4: return !b.x.move(1, 100);
      case 5: return b.x.narrow(0, 2, 3) == 3;
      case 6: return b.x.limit(2, 1) == 1;
      case 7: return b.x.move(15, 2);
      case 8: return b.x.seal(2, 15) == 2;
      case 9: return b.x.shelve(2, 0) == 0;
      case 10: return b.x.free(0) == 8;
      case 11: return b.x.take(0, 0, 3);
      default: return b.x.chance(40) > 0;
    }
  }
}
