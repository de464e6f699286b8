/** The heap at its edges: terms II, promises 6, 10 to 12, 20 to 22, 26 and 27, words by words. */
public final class HeapEdgesTest {
  private static final int MIN = Integer.MIN_VALUE;
  private static final int MAX = Integer.MAX_VALUE;
  private static final Bench b = new Bench("HeapEdgesTest");

  public static void main(String[] args) {
    fromSixteenOn();
    toldByTheirBases();
    asLongAsCanBe();
    howManyBytes();
    padded();
    theFirstMultiple();
    theLeastPick();
    needStartAndRoom();
    cannotBe();
    whateverItWas();
    whatFrees();
    whatIsFreed();
    counts();
    countsOfOthers();
    objects();
    holes();
    bytesOfMemory();
    room();
    odds();
    share();
    shareOfOthers();
    allocating();
    allocatingRefused();
    freeing();
    freeingRefused();
    b.ends();
  }

  private static void machine(String text) {
    b.due("machine " + text, b.machine(text) > 0, true);
  }

  /** Allocates as many bytes for each pointer from 0 on. */
  private static void fill(int... bytes) {
    for (int i = 0; i < bytes.length; i++) b.due("alloc(" + i + ", " + bytes[i] + ")", b.x.alloc(i, bytes[i]) >= 16, true);
  }

  private static void freed(int... pointers) {
    for (int p : pointers) b.due("free(" + p + ")", b.x.free(p) > 0, true);
  }

  private static void objectIs(int k, int base, int length, int asked) {
    b.due("base of object " + k, b.x.object(k, 0), base);
    b.due("length of object " + k, b.x.object(k, 1), length);
    b.due("asked for of object " + k, b.x.object(k, 2), asked);
  }

  private static void holesAre(int... startsAndSizes) {
    int n = startsAndSizes.length / 2;
    b.due("holes", b.x.has(5), n);
    for (int k = 0; k < n; k++) {
      b.due("hole " + k + " begins", b.x.hole(k, 0), startsAndSizes[2 * k]);
      b.due("hole " + k + " has", b.x.hole(k, 1), startsAndSizes[2 * k + 1]);
    }
    b.due("no more holes", b.x.hole(n, 0), -1);
  }

  // ---- terms II

  private static void fromSixteenOn() {
    b.about("The HEAP is memory from 16 on;");
    machine("memory 64 mantissa 8;");
    holesAre(16, 48);
    b.due("more than all", b.x.room(49), -1);
    b.due("all of it", b.x.alloc(0, 48), 16);
    holesAre();
    machine("memory 1024 mantissa 8;");
    holesAre(16, 1008);
    b.due("more than all", b.x.room(1009), -1);
    b.due("all of it", b.x.alloc(0, 1008), 16);
    b.due("its length", b.x.object(0, 1), 1008);
    holesAre();
  }

  private static void toldByTheirBases() {
    b.about("OBJECTS (32 at most) lie in it, each with a base, a length, how many bytes were asked for, told by their bases;");
    machine("memory 64 mantissa 8;pads 2;");
    fill(3, 4, 5);
    freed(0);
    b.x.alloc(7, 1);
    objectIs(0, 16, 3, 1);
    objectIs(1, 21, 6, 4);
    objectIs(2, 27, 7, 5);
    freed(1);
    b.x.alloc(8, 2);
    objectIs(0, 16, 3, 1);
    objectIs(1, 19, 4, 2);
    objectIs(2, 27, 7, 5);
    b.due("no more", b.x.object(3, 0), -1);
  }

  private static void asLongAsCanBe() {
    b.about("a HOLE is each row of bytes, as long as can be, in which none lies.");
    machine("memory 64 mantissa 8;");
    fill(4, 5, 6, 7, 26);
    holesAre();
    b.due("the longest of none", b.x.has(6), 0);
    freed(1);
    holesAre(20, 5);
    freed(3);
    holesAre(20, 5, 31, 7);
    b.due("the longest", b.x.has(6), 7);
    freed(2);
    holesAre(20, 18);
    freed(0);
    holesAre(16, 22);
    freed(4);
    holesAre(16, 48);
    fill(4, 44);
    freed(0);
    holesAre(16, 4);
    freed(1);
    b.x.alloc(0, 47);
    holesAre(63, 1);
  }

  private static void howManyBytes() {
    b.about("TO ALLOCATE n bytes (1 .. 1024) for a POINTER:");
    machine("memory 1024 mantissa 8;");
    for (int n : new int[] {1, 1007, 1008}) b.due("room(" + n + ")", b.x.room(n), 16);
    for (int n : new int[] {0, -1, 1009, 1024, 1025, MIN, MAX}) {
      b.due("room(" + n + ")", b.x.room(n), -1);
      b.due("alloc(0, " + n + ")", b.x.alloc(0, n), -1);
    }
    b.due("alloc(0, 1)", b.x.alloc(0, 1), 16);
  }

  private static int lengthOf(String pads, int mantissa, int n) {
    b.fresh();
    machine("memory 1024 mantissa " + mantissa + ";pads " + pads + ";");
    b.x.alloc(0, n);
    b.due("asked for", b.x.object(0, 2), n);
    return b.x.object(0, 1);
  }

  private static void padded() {
    b.about("n and the SUM of pads for need n, 0 .. 99 (below is 0, above 99), together are ENCODED as a length from base 0 on, the"
        + " length is as ROUNDED;");
    b.due("far below", lengthOf("0-9999*9999", 8, 5), 5);
    b.due("-1", lengthOf("0-1", 8, 5), 5);
    b.due("0", lengthOf("0", 8, 5), 5);
    b.due("1", lengthOf("1", 8, 5), 6);
    b.due("98", lengthOf("98", 8, 5), 103);
    b.due("99", lengthOf("99", 8, 5), 104);
    b.due("100", lengthOf("100", 8, 5), 104);
    b.due("far above", lengthOf("9999*9999", 8, 5), 104);
    b.due("by need", lengthOf("need-5", 8, 4), 4);
    b.due("by need", lengthOf("need-5", 8, 7), 9);
    b.due("rounded with what is padded", lengthOf("1", 4, 8), 10);
    b.due("the last that is not rounded", lengthOf("1", 4, 7), 8);
    b.due("sixteen by twos", lengthOf("0", 4, 16), 16);
    b.due("seventeen by fours", lengthOf("0", 4, 17), 20);
    b.due("by eight bits 128", lengthOf("0", 8, 128), 128);
    b.due("by eight bits 129", lengthOf("0", 8, 129), 130);
    b.due("by eight bits 257", lengthOf("0", 8, 257), 260);
  }

  private static void theFirstMultiple() {
    b.about("in a HOLE it begins at the first multiple of 2 to that E;");
    for (int lead = 1; lead <= 8; lead++) {
      b.fresh();
      machine("memory 128 mantissa 4;");
      fill(lead);
      int start = 16 + lead;
      b.due("by E 0", b.x.room(8), start);
      b.due("by E 1", b.x.room(9), (start + 1) / 2 * 2);
      b.due("by E 2", b.x.room(17), (start + 3) / 4 * 4);
      b.due("by E 3", b.x.room(33), (start + 7) / 8 * 8);
    }
    // Ten bytes from 20 on are room for ten; ten from 19 on are not, as they would begin at 20.
    int[][] rows = {{4, 20}, {3, 30}};
    for (int[] r : rows) {
      b.fresh();
      machine("memory 64 mantissa 4;");
      fill(r[0], 8, 2, 1);
      freed(1, 2);
      b.due("ten bytes", b.x.hole(0, 1), 10);
      b.due("room(10)", b.x.room(10), r[1]);
      b.due("room(8)", b.x.room(8), 16 + r[0]);
    }
    b.fresh();
    machine("memory 64 mantissa 4;");
    fill(1);
    b.due("just to the end of memory", b.x.room(40), 24);
    b.due("beyond it", b.x.room(41), -1);
    machine("memory 65 mantissa 4;");
    fill(8, 8);
    b.due("a byte is left behind it", b.x.room(32), 32);
    b.due("by E 3 it is too long", b.x.room(33), -1);
  }

  /** Holes of 8 from 24 on, of 12 from 36 on and of 76 from 52 on. */
  private static int picked(String picks, int n) {
    b.fresh();
    machine("memory 128 mantissa 8;" + picks);
    fill(8, 8, 4, 12, 4);
    freed(1, 3);
    holesAre(24, 8, 36, 12, 52, 76);
    return b.x.room(n);
  }

  private static void theLeastPick() {
    b.about("of all HOLES in which it has room the one by which the SUM of picks is least, of like ones the first");
    b.due("the first", picked("", 8), 24);
    b.due("the first with room", picked("", 9), 36);
    b.due("the last that it has room in", picked("", 12), 36);
    b.due("one more", picked("", 13), 52);
    b.due("all of the last", picked("", 76), 52);
    b.due("none", picked("", 77), -1);
    b.due("the last", picked("picks 0-start;", 1), 52);
    b.due("the shortest with room", picked("picks room;", 9), 36);
    b.due("the longest", picked("picks 0-room;", 1), 52);
    b.due("like ones", picked("picks 7;", 1), 24);
    b.due("like ones, 0", picked("picks 0;", 1), 24);
    b.due("like ones below 0", picked("picks 0-7;", 1), 24);
    b.due("like ones, cut at 10 to the 6", picked("picks (100-start)*9999*9999;", 1), 24);
    b.due("like ones, cut at -10 to the 6", picked("picks 0-start*9999*9999;", 1), 24);
    b.due("the last two are like", picked("picks max(36-start,0);", 1), 36);
    b.due("the first and the last are like", picked("picks max(0,6-max(start-36,36-start));", 1), 24);
    b.due("just the middle one is less", picked("picks max(start-36,36-start);", 1), 36);
    b.due("just below 0", picked("picks start/36*(0-start)+start/52*100;", 1), 36);
  }

  private static void needStartAndRoom() {
    b.about("(start, room as of the HOLE, need the length).");
    b.due("by need 7", picked("picks (need-7)*(0-start);", 7), 24);
    b.due("by need 8", picked("picks (need-7)*(0-start);", 8), 52);
    b.fresh();
    machine("memory 64 mantissa 4;pads 1;picks (need-10)*start;");
    fill(7, 7, 7);
    freed(0);
    b.due("seven and one are eight: the last hole", b.x.room(7), 40);
    freed(1);
    b.due("eight and one are rounded to ten: of like ones the first", b.x.room(8), 16);
  }

  private static void cannotBe() {
    b.about("It can't be without one, or with 32 OBJECTS.");
    machine("memory 64 mantissa 8;");
    for (int i = 0; i < 31; i++) b.due("alloc", b.x.alloc(0, 1), 16 + i);
    b.due("a 32nd has room", b.x.room(1), 47);
    b.due("odds", b.x.odds(), 17);
    b.due("a 32nd", b.x.alloc(0, 1), 47);
    b.due("objects", b.x.has(3), 32);
    b.due("a hole is there", b.x.has(6), 16);
    b.due("a 33rd has no room", b.x.room(1), -1);
    b.due("odds", b.x.odds(), 0);
    b.due("a 33rd", b.x.alloc(0, 1), -1);
    b.due("status(2)", b.x.status(2), 1);
    b.due("free", b.x.free(0), 1);
    b.due("a 32nd again", b.x.alloc(0, 2), 47);
    machine("memory 64 mantissa 8;");
    fill(48);
    b.due("without a hole", b.x.alloc(1, 1), -1);
    b.due("status(2)", b.x.status(2), 2);
  }

  private static void whateverItWas() {
    b.about("There is an OBJECT then, and the POINTER, whatever it was, is VALID, at its base, ENCODED by its bounds, permits 3, KIND 0.");
    machine("memory 64 mantissa 4;");
    b.x.move(15, 3);
    b.x.copy(15, 1);
    b.x.seal(1, 15);
    b.x.copy(15, 2);
    b.x.limit(2, 0);
    b.x.move(3, 999);
    b.due("one that never was", b.x.alloc(0, 8), 16);
    b.pointerIs(0, 1, 16, 16, 8, 0, 0, 8, 3, 0);
    b.due("a sealed one", b.x.alloc(1, 9), 24);
    b.pointerIs(1, 1, 24, 24, 10, 1, 12, 1, 3, 0);
    b.due("one without permits", b.x.alloc(2, 1), 34);
    b.pointerIs(2, 1, 34, 34, 1, 0, 2, 3, 3, 0);
    b.due("one that is not valid, elsewhere", b.x.alloc(3, 17), 36);
    b.pointerIs(3, 1, 36, 36, 20, 2, 9, 14, 3, 0);
    b.due("the one of all", b.x.alloc(15, 1), 35);
    b.pointerIs(15, 1, 35, 35, 1, 0, 3, 4, 3, 0);
    b.due("one that has an object", b.x.alloc(0, 2), 56);
    b.due("that object is there still", b.x.object(0, 0), 16);
    b.due("objects", b.x.has(3), 6);
    b.due("bytes in objects", b.x.has(4), 8 + 10 + 1 + 20 + 1 + 2);
  }

  private static void whatFrees() {
    b.about("TO FREE by a POINTER that is VALID, not sealed, whose bounds are those of an OBJECT:");
    machine("memory 64 mantissa 4;");
    fill(8, 8);
    b.x.copy(15, 2);
    b.x.move(2, 16);
    b.due("bounds by narrowing", b.x.narrow(2, 2, 8), 8);
    b.due("free by those bounds", b.x.free(2), 8);
    b.due("the other is there", b.x.object(0, 0), 24);
    b.x.undo();
    b.x.move(0, -4);
    b.due("free from out of its bounds", b.x.free(0), 8);
    b.x.undo();
    b.x.limit(0, 0);
    b.due("free without permits", b.x.free(0), 8);
    b.x.undo();
    b.x.narrow(1, 3, 7);
    b.due("its base, but shorter", b.x.free(3), -1);
    b.x.move(1, 1);
    b.x.narrow(1, 3, 7);
    b.due("its end, but shorter", b.x.free(3), -1);
    b.x.copy(15, 4);
    b.x.move(4, 17);
    b.x.narrow(4, 4, 8);
    b.due("its length, but one on", b.x.free(4), -1);
    b.x.copy(15, 4);
    b.x.move(4, 16);
    b.x.narrow(4, 4, 16);
    b.due("two of them together", b.x.free(4), -1);
    b.x.move(15, 1);
    b.x.seal(1, 15);
    b.due("sealed", b.x.free(1), -1);
    b.x.move(0, 20);
    b.due("not valid", b.x.free(0), -1);
    b.due("objects", b.x.has(3), 2);
    b.due("status(2)", b.x.status(2), 6);
  }

  private static void whatIsFreed() {
    b.about("that is no more, its bytes are 0, all POINTERS (on SHELVES, too) whose base is in it are VALID no more.");
    machine("memory 64 mantissa 4;shelf s kind 1;");
    b.x.move(15, 14);
    for (int a = 14; a < 35; a++) {
      b.x.store(15, a);
      b.x.move(15, 1);
    }
    b.x.move(15, 1 - 35);
    fill(8, 8);
    b.x.narrow(1, 2, 1);
    b.x.move(1, 7);
    b.x.narrow(1, 3, 1);
    b.x.move(1, 1);
    b.x.narrow(1, 4, 0);
    b.x.move(1, -9);
    b.x.copy(15, 5);
    b.x.move(5, 22);
    b.x.narrow(5, 5, 8);
    b.x.copy(1, 6);
    b.x.seal(6, 15);
    b.x.shelve(6, 0);
    b.x.copy(0, 7);
    b.x.seal(7, 15);
    b.x.shelve(7, 0);
    b.due("free", b.x.free(1), 8);
    int[] valid = {1, 0, 0, 0, 1, 1, 0, 1, 0, 0, 0, 0, 0, 0, 0, 1};
    for (int p = 0; p < 16; p++) b.due("valid " + p, b.x.pointer(p, 0), valid[p]);
    b.due("on the shelf", b.x.shelf(0, 0, 0), 0);
    b.due("on the shelf, of another object", b.x.shelf(0, 1, 0), 1);
    b.due("sealed still", b.x.pointer(6, 8), 1);
    b.due("where it was", b.x.pointer(1, 1), 23);
    for (int a = 12; a < 40; a++) {
      boolean stored = a >= 14 && a < 35 && (a < 24 || a > 31);
      b.due("octetAt(" + a + ")", b.x.octetAt(a), stored ? a : 0);
    }
    b.due("objects", b.x.has(3), 1);
    b.due("the other one", b.x.object(0, 0), 16);
    b.due("bytes are not 0 by allocating", b.x.alloc(1, 10) == 24 && b.x.octetAt(33) == 33, true);
  }

  // ---- promises

  private static void counts() {
    b.about("How many there are: 0 bytes of memory, 1 M, 2 VALID POINTERS, 3 OBJECTS, 4 bytes in OBJECTS, 5 HOLES, 6 bytes of the longest"
        + " HOLE, 7 what is told as KEPT, 8 rows SEEN, 9 ACTS that can be undone, 10 SHELVES.");
    for (int i = 0; i <= 10; i++) b.due("without a machine, has(" + i + ")", b.x.has(i), 0);
    machine("memory 100 mantissa 6;shelf a kind 1;");
    int[] first = {100, 6, 1, 0, 0, 1, 84, 0, 0, 0, 1};
    for (int i = 0; i <= 10; i++) b.due("at first, has(" + i + ")", b.x.has(i), first[i]);
    fill(5, 6, 7);
    freed(1);
    b.x.move(15, 1);
    b.x.seal(0, 15);
    b.x.shelve(0, 0);
    b.see(64, 1, 63, 1, 65, 1);
    int[] then = {100, 6, 3, 2, 12, 2, 66, 4, 3, 7, 1};
    for (int i = 0; i <= 10; i++) b.due("then, has(" + i + ")", b.x.has(i), then[i]);
  }

  private static void countsOfOthers() {
    b.about("NONE for others. ## Promise 7: letter");
    for (int i : new int[] {-1, 11, MIN, MAX}) b.due("without a machine, has(" + i + ")", b.x.has(i), -1);
    machine("memory 64 mantissa 4;");
    for (int i : new int[] {-1, 11, MIN, MAX}) b.due("has(" + i + ")", b.x.has(i), -1);
  }

  private static void objects() {
    b.about("Of the k-th OBJECT: 0 base, 1 length, 2 how many bytes were asked for. NONE when there is none such, or for others.");
    b.due("without a machine", b.x.object(0, 0), -1);
    machine("memory 64 mantissa 4;");
    b.due("without objects", b.x.object(0, 0), -1);
    fill(9, 3);
    objectIs(0, 16, 10, 9);
    objectIs(1, 26, 3, 3);
    for (int k : new int[] {-1, 2, MIN, MAX}) {
      for (int what = 0; what < 3; what++) b.due("object(" + k + ", " + what + ")", b.x.object(k, what), -1);
    }
    for (int what : new int[] {-1, 3, MIN, MAX}) b.due("object(0, " + what + ")", b.x.object(0, what), -1);
    freed(1);
    b.due("one that was", b.x.object(1, 0), -1);
    machine("memory 64 mantissa 8;");
    for (int i = 0; i < 32; i++) b.x.alloc(0, 1);
    objectIs(31, 47, 1, 1);
    b.due("object(32, 0)", b.x.object(32, 0), -1);
  }

  private static void holes() {
    b.about("Of the k-th HOLE from the lowest on: 0 where it begins, 1 how many bytes it has. NONE when there is none such, or for others.");
    b.due("without a machine", b.x.hole(0, 0), -1);
    machine("memory 64 mantissa 8;");
    holesAre(16, 48);
    fill(4, 4, 4, 4, 32);
    holesAre();
    freed(3, 1, 4);
    holesAre(20, 4, 28, 36);
    for (int k : new int[] {-1, 2, MIN, MAX}) {
      for (int what = 0; what < 2; what++) b.due("hole(" + k + ", " + what + ")", b.x.hole(k, what), -1);
    }
    for (int what : new int[] {-1, 2, MIN, MAX}) b.due("hole(0, " + what + ")", b.x.hole(0, what), -1);
    manyHoles();
  }

  /** Every second of 15 bytes freed: holes between objects, and one behind the last of them. */
  private static void manyHoles() {
    b.fresh();
    machine("memory 64 mantissa 8;");
    for (int i = 0; i < 15; i++) b.x.alloc(i, 1);
    for (int i = 1; i < 15; i += 2) b.x.free(i);
    b.due("holes", b.x.has(5), 8);
    for (int k = 0; k < 7; k++) {
      b.due("hole " + k, b.x.hole(k, 0), 17 + 2 * k);
      b.due("one byte", b.x.hole(k, 1), 1);
    }
    b.due("the last", b.x.hole(7, 0), 31);
    b.due("the rest", b.x.hole(7, 1), 33);
  }

  private static void bytesOfMemory() {
    b.about("The byte of memory at an address; NONE when there is none such.");
    b.due("without a machine", b.x.octetAt(0), -1);
    for (int memory : new int[] {64, 65, 1024}) {
      machine("memory " + memory + " mantissa 4;");
      b.due("the first", b.x.octetAt(0), 0);
      b.x.move(15, memory - 1);
      b.x.store(15, 255);
      b.due("the last", b.x.octetAt(memory - 1), 255);
      b.due("the one ahead", b.x.octetAt(memory - 2), 0);
      for (int a : new int[] {memory, -1, 4095, 4096, MIN, MAX}) b.due("octetAt(" + a + ")", b.x.octetAt(a), -1);
    }
  }

  private static void room() {
    b.about("Where n bytes (1 .. 1024) would be ALLOCATED now; NONE when they can't be, or without a machine.");
    b.due("without a machine", b.x.room(1), -1);
    machine("memory 64 mantissa 4;");
    for (int n : new int[] {0, -1, 49, 1024, 1025, MIN, MAX}) b.due("room(" + n + ")", b.x.room(n), -1);
    for (int n : new int[] {1, 48}) b.due("room(" + n + ")", b.x.room(n), 16);
    for (int n = 1; n < 12; n++) {
      int room = b.x.room(n);
      b.due("as it is allocated, " + n, b.x.alloc(0, n), room);
      if (n % 2 == 0) b.x.free(0);
    }
    b.due("nothing is refused by asking", b.x.status(2), 0);
  }

  private static void odds() {
    b.about("By how many n of 1 .. 100 these could be ALLOCATED now; NONE without a machine.");
    b.due("without a machine", b.x.odds(), -1);
    int[][] rows = {{64, 48}, {115, 99}, {116, 100}, {117, 100}, {1024, 100}};
    for (int[] r : rows) {
      machine("memory " + r[0] + " mantissa 8;");
      b.due("memory " + r[0], b.x.odds(), r[1]);
    }
    machine("memory 64 mantissa 8;pads 47;");
    b.due("one alone", b.x.odds(), 1);
    machine("memory 64 mantissa 8;pads 48;");
    b.due("none", b.x.odds(), 0);
    // 8, 16 and so on are padded by 99: all but these have room, up to 48.
    machine("memory 64 mantissa 8;pads (1-min(1,need-need/8*8))*99;");
    b.due("some between", b.x.odds(), 42);
    machine("memory 64 mantissa 8;");
    fill(48);
    b.due("without a hole", b.x.odds(), 0);
    b.due("nothing is done by asking", b.x.has(3), 1);
  }

  private static void share() {
    b.about("How many of a hundred bytes of the HEAP are in OBJECTS (what 0), of a hundred bytes in OBJECTS were not asked for (1; 0 without"
        + " OBJECTS): the greatest whole number not above.");
    machine("memory 64 mantissa 8;");
    b.due("none", b.x.share(0), 0);
    b.due("without objects", b.x.share(1), 0);
    b.x.alloc(0, 1);
    b.due("1 of 48", b.x.share(0), 2);
    b.due("all asked for", b.x.share(1), 0);
    b.x.alloc(1, 46);
    b.due("47 of 48", b.x.share(0), 97);
    b.x.alloc(2, 1);
    b.due("all of them", b.x.share(0), 100);
    b.due("all asked for", b.x.share(1), 0);
    machine("memory 1024 mantissa 8;pads 99;");
    b.x.alloc(0, 1);
    b.due("100 of 1008", b.x.share(0), 9);
    b.due("99 of 100", b.x.share(1), 99);
    machine("memory 64 mantissa 8;pads 1;");
    b.x.alloc(0, 2);
    b.due("1 of 3", b.x.share(1), 33);
    b.x.alloc(1, 5);
    b.due("2 of 9", b.x.share(1), 22);
    freed(0, 1);
    b.due("without objects again", b.x.share(1), 0);
  }

  private static void shareOfOthers() {
    b.about("the greatest whole number not above. NONE without a machine, or for others.");
    for (int what : new int[] {0, 1}) b.due("without a machine", b.x.share(what), -1);
    machine("memory 64 mantissa 8;");
    for (int what : new int[] {-1, 2, MIN, MAX}) b.due("share(" + what + ")", b.x.share(what), -1);
  }

  private static void allocating() {
    b.about("n bytes are ALLOCATED for a POINTER: the base;");
    machine("memory 64 mantissa 4;");
    b.due("the first byte of the heap", b.x.alloc(0, 1), 16);
    b.due("not the hole's, but the base", b.x.alloc(15, 9), 18);
    b.due("behind it", b.x.alloc(1, 32), 28);
    b.due("the last of memory", b.x.alloc(2, 4), 60);
    b.due("what was left between", b.x.alloc(3, 1), 17);
  }

  private static void allocatingRefused() {
    b.about("NONE, refused (2), when they can't be, or there is none such.");
    b.due("without a machine", b.x.alloc(0, 1), -1);
    b.due("status(2)", b.x.status(2), 1);
    machine("memory 64 mantissa 4;");
    int refused = 1;
    for (int p : new int[] {-1, 16, MIN, MAX}) {
      b.due("alloc(" + p + ", 1)", b.x.alloc(p, 1), -1);
      b.due("status(2)", b.x.status(2), ++refused);
    }
    for (int n : new int[] {0, -1, 49, 1025, MIN, MAX}) {
      b.due("alloc(0, " + n + ")", b.x.alloc(0, n), -1);
      b.due("status(2)", b.x.status(2), ++refused);
    }
    b.due("no object", b.x.has(3), 0);
    b.due("no act", b.x.has(9), 0);
    b.due("the pointer is as it was", b.x.pointer(0, 0), 0);
  }

  private static void freeing() {
    b.about("By a POINTER there is FREED: how many bytes the OBJECT had;");
    machine("memory 64 mantissa 4;pads 1;");
    fill(1, 8, 9);
    b.due("with what was padded", b.x.free(0), 2);
    b.due("and rounded", b.x.free(1), 10);
    b.due("and rounded", b.x.free(2), 10);
    b.x.alloc(15, 40);
    b.due("by the last", b.x.free(15), 48);
  }

  private static void freeingRefused() {
    b.about("By a POINTER there is FREED: how many bytes the OBJECT had; NONE, refused (2), when it can't be, or there is none such.");
    b.due("without a machine", b.x.free(0), -1);
    b.due("status(2)", b.x.status(2), 1);
    machine("memory 64 mantissa 4;");
    fill(4);
    int refused = 1;
    for (int p : new int[] {-1, 16, 1, 15, MIN, MAX}) {
      b.due("free(" + p + ")", b.x.free(p), -1);
      b.due("status(2)", b.x.status(2), ++refused);
    }
    b.due("the object is there", b.x.has(3), 1);
    b.due("acts", b.x.has(9), 1);
    freed(0);
    b.due("again", b.x.free(0), -1);
    b.due("status(2)", b.x.status(2), ++refused);
    b.due("nothing is kept of it", b.x.has(7), 2);
  }
}
