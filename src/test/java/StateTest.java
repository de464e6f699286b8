/** Promises 6 and 8 to 13: has, pointer, shelf, object, hole, octetAt, kept. */
public final class StateTest {
  private static final Bench b = new Bench("StateTest");

  public static void main(String[] args) {
    counts();
    pointers();
    shelves();
    objectsAndHoles();
    memory();
    kept();
    b.ends();
  }

  private static void counts() {
    b.machine("memory 100 mantissa 6;shelf a kind 1;shelf b kind 2;");
    int[] first = {100, 6, 1, 0, 0, 1, 84, 0, 0, 0, 2};
    for (int i = 0; i <= 10; i++) b.due("has(" + i + ")", b.x.has(i), first[i]);
    b.due("alloc", b.x.alloc(0, 10), 16);
    b.due("alloc", b.x.alloc(1, 20), 26);
    b.due("alloc", b.x.alloc(2, 4), 46);
    b.due("free", b.x.free(1), 20);
    b.see(64, 1, 65, 0);
    int[] then = {100, 6, 3, 2, 14, 2, 50, 4, 2, 4, 2};
    for (int i = 0; i <= 10; i++) b.due("has(" + i + ")", b.x.has(i), then[i]);
    b.due("has(-1)", b.x.has(-1), -1);
    b.due("has(11)", b.x.has(11), -1);
  }

  private static void pointers() {
    b.machine("memory 256 mantissa 4;");
    b.due("alloc", b.x.alloc(3, 10), 16);
    b.pointerIs(3, 1, 16, 16, 10, 1, 8, 13, 3, 0);
    b.due("pointer(3, 9)", b.x.pointer(3, 9), -1);
    b.due("pointer(3, -1)", b.x.pointer(3, -1), -1);
    b.due("pointer(-1, 0)", b.x.pointer(-1, 0), -1);
    b.due("pointer(16, 0)", b.x.pointer(16, 0), -1);
    // From the last address of its window on, 39, and one on, where the bounds are others.
    b.due("move", b.x.move(3, 23), true);
    b.pointerIs(3, 1, 39, 16, 10, 1, 8, 13, 3, 0);
    b.due("move", b.x.move(3, 1), false);
    b.pointerIs(3, 0, 40, 48, 10, 1, 8, 13, 3, 0);
    // One window back, from address 0 on, modulo 4096.
    b.due("move", b.x.move(3, -40), false);
    b.pointerIs(3, 0, 0, 4096 - 32 + 16, 10, 1, 8, 13, 3, 0);
  }

  private static void shelves() {
    b.machine("memory 256 mantissa 4;shelf a kind 1;shelf b kind 2;");
    b.x.alloc(0, 10);
    b.x.copy(15, 1);
    b.x.move(1, 2);
    b.due("shelf, empty", b.x.shelf(1, 0, 0), -1);
    b.due("seal", b.x.seal(0, 1), 2);
    b.due("shelve", b.x.shelve(0, 1), 0);
    int[] want = {1, 16, 16, 10, 1, 8, 13, 3, 2};
    for (int i = 0; i < 9; i++) b.due("shelf(1, 0, " + i + ")", b.x.shelf(1, 0, i), want[i]);
    b.due("shelf(1, 0, 9)", b.x.shelf(1, 0, 9), -1);
    b.due("shelf(1, 0, -1)", b.x.shelf(1, 0, -1), -1);
    b.due("shelf(1, 1, 0)", b.x.shelf(1, 1, 0), -1);
    b.due("shelf(0, 0, 0)", b.x.shelf(0, 0, 0), -1);
    b.due("shelf(2, 0, 0)", b.x.shelf(2, 0, 0), -1);
    b.due("shelf(-1, 0, 0)", b.x.shelf(-1, 0, 0), -1);
    b.due("shelf(1, 4, 0)", b.x.shelf(1, 4, 0), -1);
    b.due("shelf(0, 4, 0) is not shelf(1, 0, 0)", b.x.shelf(0, 4, 0), -1);
    b.due("take(0, 4, 9) neither", b.x.take(0, 4, 9), false);
    b.due("shelf(1, -1, 0)", b.x.shelf(1, -1, 0), -1);
  }

  private static void objectsAndHoles() {
    b.machine("memory 100 mantissa 8;pads 1;");
    b.x.alloc(0, 10);
    b.x.alloc(1, 20);
    b.x.alloc(2, 30);
    b.x.free(1);
    int[][] objects = {{16, 11, 10}, {48, 31, 30}};
    int[][] holes = {{27, 21}, {79, 21}};
    for (int k = 0; k < 2; k++) {
      for (int i = 0; i < 3; i++) b.due("object(" + k + ", " + i + ")", b.x.object(k, i), objects[k][i]);
      for (int i = 0; i < 2; i++) b.due("hole(" + k + ", " + i + ")", b.x.hole(k, i), holes[k][i]);
    }
    b.due("object(2, 0)", b.x.object(2, 0), -1);
    b.due("object(-1, 0)", b.x.object(-1, 0), -1);
    b.due("object(0, 3)", b.x.object(0, 3), -1);
    b.due("object(0, -1)", b.x.object(0, -1), -1);
    b.due("hole(2, 0)", b.x.hole(2, 0), -1);
    b.due("hole(-1, 0)", b.x.hole(-1, 0), -1);
    b.due("hole(0, 2)", b.x.hole(0, 2), -1);
    b.due("hole(0, -1)", b.x.hole(0, -1), -1);
    // Told by their bases, not by when they were allocated.
    b.due("alloc", b.x.alloc(5, 20), 27);
    b.due("object(1, 0)", b.x.object(1, 0), 27);
    b.due("object(2, 0)", b.x.object(2, 0), 48);
    b.due("hole(0, 0)", b.x.hole(0, 0), 79);
    b.due("hole(1, 0)", b.x.hole(1, 0), -1);
  }

  private static void memory() {
    b.machine("memory 65 mantissa 8;");
    for (int a : new int[] {0, 15, 16, 64}) b.due("octetAt(" + a + ")", b.x.octetAt(a), 0);
    b.due("octetAt(65)", b.x.octetAt(65), -1);
    b.due("octetAt(-1)", b.x.octetAt(-1), -1);
    b.x.move(15, 64);
    b.due("store", b.x.store(15, 255), true);
    b.x.move(15, -1);
    b.due("store", b.x.store(15, 128), true);
    b.due("octetAt(64)", b.x.octetAt(64), 255);
    b.due("octetAt(63)", b.x.octetAt(63), 128);
    b.due("octetAt(62)", b.x.octetAt(62), 0);
    b.x.move(15, -63);
    for (int a = 0; a < 24; a++) {
      b.due("store", b.x.store(15, 7 * a + 100 & 255), true);
      b.x.move(15, 1);
    }
    for (int a = 0; a < 24; a++) b.due("octetAt(" + a + ")", b.x.octetAt(a), 7 * a + 100 & 255);
    b.due("octetAt(24)", b.x.octetAt(24), 0);
    b.x.move(15, -14);
    b.due("store 0", b.x.store(15, 0), true);
    for (int a = 0; a < 24; a++) {
      b.due("octetAt(" + a + ")", b.x.octetAt(a), a == 10 ? 0 : 7 * a + 100 & 255);
    }
  }

  private static void kept() {
    b.machine("memory 64 mantissa 4;");
    b.x.alloc(0, 9);
    b.x.move(0, 31);
    b.x.move(0, 1);
    b.x.undo();
    b.x.undo();
    b.x.free(0);
    b.due("has(7)", b.x.has(7), 2);
    b.x.alloc(1, 2);
    b.x.move(1, -5);
    int[][] want = {{0, 16, 10}, {1, 16, 10}, {0, 16, 2}, {2, 1, 11}};
    for (int k = 0; k < 4; k++) {
      for (int i = 0; i < 3; i++) b.due("kept(" + k + ", " + i + ")", b.x.kept(k, i), want[k][i]);
    }
    // One that is valid no more already is moved without being kept.
    b.x.move(1, 1000);
    b.due("has(7)", b.x.has(7), 4);
    b.due("kept(4, 0)", b.x.kept(4, 0), -1);
    b.due("kept(-1, 0)", b.x.kept(-1, 0), -1);
    b.due("kept(0, 3)", b.x.kept(0, 3), -1);
    b.due("kept(0, -1)", b.x.kept(0, -1), -1);
    theLastForty();
  }

  private static void theLastForty() {
    b.machine("memory 64 mantissa 8;");
    for (int i = 1; i <= 21; i++) {
      b.x.alloc(0, i);
      b.x.free(0);
    }
    b.due("has(7)", b.x.has(7), 40);
    b.due("the oldest told", b.x.kept(0, 2), 2);
    b.due("the newest told", b.x.kept(39, 2), 21);
    b.due("kept(40, 0)", b.x.kept(40, 0), -1);
    // Undone, what had gone from sight is told again.
    b.x.undo();
    b.due("has(7)", b.x.has(7), 40);
    b.due("the oldest told", b.x.kept(0, 0), 1);
    b.due("the oldest told", b.x.kept(0, 2), 1);
    b.due("the newest told", b.x.kept(39, 0), 0);
    b.x.undo();
    b.due("the oldest told", b.x.kept(0, 0), 0);
    b.due("the oldest told", b.x.kept(0, 2), 1);
    b.x.undo();
    b.due("has(7)", b.x.has(7), 39);
  }
}
