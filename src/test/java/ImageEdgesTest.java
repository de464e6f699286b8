/** Images at their edges: terms IV, promises 42 to 44, words by words. */
public final class ImageEdgesTest {
  private static final int MIN = Integer.MIN_VALUE;
  private static final int MAX = Integer.MAX_VALUE;
  private static final String M = "memory 64 mantissa 4;shelf a kind 2;shelf b kind 7;";
  /** Where the places of the second shelf and the objects begin, with two shelves. */
  private static final int SECOND = 8 * 20;
  private static final int OBJECTS = 8 * 24;
  private static final Bench b = new Bench("ImageEdgesTest");

  public static void main(String[] args) {
    ofEachPointer();
    anEmptyPlace();
    ofEachObject();
    theLastByte();
    memoryIsNotOfIt();
    howManyBytes();
    noImage();
    bytesOfTheLatest();
    allIsAsItTells();
    whatGoesAndWhatStays();
    flags();
    addresses();
    exponents();
    permitsAndKinds();
    bottomsAndTops();
    onShelvesOfItsKind();
    objectsInTheHeap();
    thirtyTwo();
    risingAndApart();
    exactOnes();
    askedFor();
    noneOfThisMachine();
    without();
    b.ends();
  }

  /** 0 has 16 .. 24, 1 has 24 .. 34 of nine; 2 is sealed by 2, and on the first place; 15 is at 2. */
  private static void scene() {
    b.due("machine", b.machine(M), 3);
    b.x.move(15, 2);
    b.x.alloc(0, 8);
    b.x.alloc(1, 9);
    b.x.copy(0, 2);
    b.x.seal(2, 15);
    b.x.shelve(2, 0);
    b.x.store(0, 99);
  }

  private static int[] image() {
    int[] bytes = new int[b.x.image()];
    for (int i = 0; i < bytes.length; i++) bytes[i] = b.x.octet(i);
    return bytes;
  }

  private static int[] closed(int... bytes) {
    int c = 149;
    for (int i = 0; i < bytes.length - 1; i++) c = (3 * c + bytes[i]) % 251;
    bytes[bytes.length - 1] = c;
    return bytes;
  }

  private static void part(String what, int[] bytes, int from, int... want) {
    for (int i = 0; i < want.length; i++) b.due(what + ", byte " + i, bytes[from + i], want[i]);
  }

  /** The scene's image with other bytes from one on, read by the scene: whether it is one. */
  private static void read(String what, boolean want, int at, int... values) {
    b.fresh();
    scene();
    int[] bytes = image();
    System.arraycopy(values, 0, bytes, at, values.length);
    readAll(what, want, closed(bytes));
    if (want) part(what, image(), at, values);
  }

  private static void readAll(String what, boolean want, int... bytes) {
    int acts = b.x.has(9);
    b.due(what, b.on(bytes), want);
    b.due(what + ", status(7)", b.x.status(7), want ? 0 : 1);
    b.due(what + ", acts", b.x.has(9), want ? 0 : acts);
    b.due(what + ", the byte", b.x.octetAt(16), want ? 0 : 99);
    b.due(what + ", kept", b.x.has(7), want ? 0 : 2);
    b.due(what + ", the tape is gone", b.x.feed(0, 0, 0, 0, 0), 20);
  }

  // ---- terms IV

  private static void ofEachPointer() {
    b.about("for each POINTER, then for each place of each SHELF: 1 if VALID, else 0, the address (two bytes, the higher first), E, B, T, permits, KIND");
    scene();
    b.x.move(1, 300);
    b.x.copy(15, 14);
    b.x.move(14, 5);
    b.x.alloc(13, 1);
    b.x.seal(13, 14);
    for (int i = 0; i < 4; i++) b.x.shelve(13, 1);
    b.x.move(14, 4088);
    int[] bytes = image();
    part("pointer 0", bytes, 0, 1, 0, 16, 0, 0, 8, 3, 0);
    part("pointer 1", bytes, 8, 0, 1, 68, 1, 12, 1, 3, 0);
    part("pointer 2", bytes, 16, 1, 0, 16, 0, 0, 8, 3, 2);
    part("pointer 3", bytes, 24, 0, 0, 0, 0, 0, 0, 0, 0);
    part("pointer 13", bytes, 104, 1, 0, 34, 0, 2, 3, 3, 7);
    part("pointer 14", bytes, 112, 1, 15, 255, 9, 0, 8, 7, 0);
    part("pointer 15", bytes, 120, 1, 0, 2, 9, 0, 8, 7, 0);
    part("the first place", bytes, 128, 1, 0, 16, 0, 0, 8, 3, 2);
    for (int place = 0; place < 4; place++) part("the second shelf", bytes, SECOND + 8 * place, 1, 0, 34, 0, 2, 3, 3, 7);
    b.x.free(0);
    part("not valid on a shelf", image(), 128, 0, 0, 16, 0, 0, 8, 3, 2);
  }

  private static void anEmptyPlace() {
    b.about("(of an empty place all 255)");
    scene();
    int[] bytes = image();
    for (int at = 136; at < OBJECTS; at++) b.due("byte " + at, bytes[at], 255);
    b.due("the place ahead of them", bytes[135], 2);
    b.due("the byte behind them", bytes[OBJECTS], 2);
    b.x.take(0, 0, 5);
    bytes = image();
    for (int at = 128; at < OBJECTS; at++) b.due("byte " + at, bytes[at], 255);
    b.due("an empty shelf read back", b.on(bytes), true);
    for (int place = 0; place < 4; place++) b.due("an empty place", b.x.shelf(0, place, 0), -1);
    b.due("of the second shelf, too", b.x.shelf(1, 3, 0), -1);
  }

  private static void ofEachObject() {
    b.about("how many OBJECTS, of each, by their bases, base, length, how many were asked for (two each);");
    b.machine("memory 1024 mantissa 8;");
    int[] bytes = image();
    b.due("none", bytes[128], 0);
    b.due("bytes", bytes.length, 130);
    b.x.alloc(0, 300);
    b.x.alloc(1, 257);
    b.x.alloc(2, 1);
    b.x.free(0);
    b.x.alloc(3, 5);
    bytes = image();
    part("objects", bytes, 128, 3, 0, 16, 0, 5, 0, 5, 1, 60, 1, 4, 1, 1, 2, 64, 0, 1, 0, 1);
    b.due("bytes", bytes.length, 130 + 18);
  }

  private static void theLastByte() {
    b.about("last a byte: all ahead from 149 on, c = (3 c + it) mod 251.");
    b.machine("memory 64 mantissa 8;");
    b.due("at first, told by the runs of the document", image()[129], 21);
    b.fresh();
    scene();
    int[] bytes = image();
    int last = bytes[bytes.length - 1];
    b.due("the last", last, closed(bytes.clone())[bytes.length - 1]);
    for (int c = 0; c < 256; c++) {
      bytes[bytes.length - 1] = c;
      b.fresh();
      scene();
      b.due("a last byte of " + c, b.on(bytes), c == last);
    }
  }

  private static void memoryIsNotOfIt() {
    b.about("(Bytes of memory are not of it; by on() they are 0.)");
    scene();
    int[] bytes = image();
    b.x.store(0, 1);
    b.x.move(15, 61);
    b.x.store(15, 255);
    b.x.move(15, -61);
    part("whatever is stored", image(), 0, bytes);
    b.due("on", b.on(bytes), true);
    for (int a = 0; a < 64; a++) b.due("octetAt(" + a + ")", b.x.octetAt(a), 0);
  }

  // ---- promises 42, 43

  private static void howManyBytes() {
    b.about("AN IMAGE is written: how many bytes;");
    String text = "memory 1024 mantissa 8;";
    for (int shelves = 0; shelves <= 4; shelves++) {
      b.machine(text);
      b.due("with " + shelves + " shelves", b.x.image(), 8 * 16 + 32 * shelves + 2);
      text += "shelf " + (char) ('a' + shelves) + " kind 1;";
    }
    for (int i = 1; i <= 32; i++) {
      b.x.alloc(0, 3);
      b.due("with " + i + " objects", b.x.image(), 8 * 32 + 2 + 6 * i);
    }
    b.due("no act", b.x.has(9), 20);
  }

  private static void noImage() {
    b.about("how many bytes; NONE without a machine.");
    b.due("without a machine", b.x.image(), -1);
    b.due("no byte", b.x.octet(0), -1);
    b.fails("x", 1, 0);
    b.due("without a machine still", b.x.image(), -1);
    b.stands("memory 64 mantissa 4;", 1);
    b.due("with one", b.x.image(), 130);
  }

  private static void bytesOfTheLatest() {
    b.about("Byte k of the latest image(); NONE when there is none such.");
    b.due("ahead of any machine", b.x.octet(0), -1);
    scene();
    b.due("ahead of any", b.x.octet(0), -1);
    int n = b.x.image();
    b.due("the first", b.x.octet(0), 1);
    b.due("the last", b.x.octet(n - 1) >= 0, true);
    for (int k : new int[] {-1, n, n + 1, MIN, MAX}) b.due("octet(" + k + ")", b.x.octet(k), -1);
    int last = b.x.octet(n - 1);
    b.x.free(0);
    b.due("the latest, whatever was done since", b.x.octet(0), 1);
    b.due("its last", b.x.octet(n - 1), last);
    b.x.image();
    b.due("of the latest", b.x.octet(0), 0);
    b.due("a shorter one", b.x.octet(n - 6) == -1 && b.x.octet(n - 7) >= 0, true);
    b.due("no bytes that cannot be", b.x.octet(136), 255);
    b.machine("memory 64 mantissa 4;");
    b.due("the latest image() is the same one yet", b.x.octet(136), 255);
    b.x.image();
    b.due("then it is not", b.x.octet(136), -1);
  }

  // ---- promise 44

  private static void allIsAsItTells() {
    b.about("is AN IMAGE of this MACHINE: true, all is as it tells, memory is 0, nothing is KEPT or can be undone;");
    scene();
    int[] bytes = image();
    b.x.free(1);
    b.x.take(0, 0, 9);
    b.x.alloc(15, 20);
    b.due("on", b.on(bytes), true);
    part("as it tells", image(), 0, bytes);
    b.pointerIs(0, 1, 16, 16, 8, 0, 0, 8, 3, 0);
    b.pointerIs(9, 0, 0, 0, 0, 0, 0, 0, 0, 0);
    b.pointerIs(15, 1, 2, 0, 4096, 9, 0, 8, 7, 0);
    b.due("a place", b.x.shelf(0, 0, 8), 2);
    b.due("an object", b.x.object(1, 0) == 24 && b.x.object(1, 1) == 10 && b.x.object(1, 2) == 9, true);
    b.due("memory is 0", b.x.octetAt(16), 0);
    b.due("nothing is kept", b.x.has(7), 0);
    b.due("nothing is kept", b.x.kept(0, 0), -1);
    b.due("nothing can be undone", b.x.has(9), 0);
    b.due("nothing can be undone", b.x.undo(), false);
    b.due("what is done from there on is", b.x.free(0) == 8 && b.x.has(7) == 1 && b.x.undo() && b.x.has(3) == 2, true);
    b.due("unseal, take", b.x.unseal(2, 15) && b.x.take(0, 0, 3) && b.x.pointer(3, 8) == 2, true);
  }

  private static void whatGoesAndWhatStays() {
    b.about("`boolean on()`: The tape (it goes)");
    scene();
    b.see(64, 1, 65, 1);
    b.x.seed(9);
    b.askFails("total x", 1, 6);
    b.x.free(9);
    int[] bytes = image();
    b.due("on", b.on(bytes), true);
    b.due("the tape is gone", b.x.feed(0, 0, 0, 0, 0), 20);
    b.due("what is seen stays", b.x.has(8), 2);
    b.due("the fault stays", b.x.fault(0), 1);
    b.due("what was refused stays counted", b.x.status(2), 1);
    b.due("the latest image stays", b.x.octet(0), 1);
    b.due("the machine stays", b.x.has(10), 2);
    b.due("the seed stays: from 9 on nothing is freed first", b.x.chance(1), 0);
    b.due("nothing on the tape is none", b.on(), false);
  }

  private static void flags() {
    b.about("(flags 0, 1;");
    for (int at : new int[] {0, 120, 128}) {
      read("a flag of 0", true, at, 0);
      read("a flag of 1", true, at, 1);
      read("a flag of 2", false, at, 2);
      read("a flag of 255", false, at, 255);
    }
    read("a pointer cannot be empty", false, 8, 255, 255, 255, 255, 255, 255, 255, 255);
    read("an empty place", true, 128, 255, 255, 255, 255, 255, 255, 255, 255);
    for (int i = 0; i < 8; i++) {
      int[] nearly = {255, 255, 255, 255, 255, 255, 255, 255};
      nearly[i] = i == 7 ? 2 : 1;
      read("a place empty but for byte " + i, false, 128, nearly);
    }
  }

  private static void addresses() {
    b.about("addresses 4095,");
    for (int at : new int[] {1, 121, 129}) {
      read("an address of 0", true, at, 0, 0);
      read("an address of 4095", true, at, 15, 255);
      read("an address of 4096", false, at, 16, 0);
      read("an address of 65535", false, at, 255, 255);
    }
  }

  private static int[] plain(int m) {
    b.fresh();
    b.due("machine", b.machine("memory 64 mantissa " + m + ";"), 1);
    return image();
  }

  private static void exponents() {
    b.about("E 13 less M,");
    for (int m = 4; m <= 8; m++) {
      for (int e : new int[] {0, 13 - m, 14 - m, 255}) {
        int[] bytes = plain(m);
        bytes[3] = e;
        b.due("E " + e + " by M " + m, b.on(closed(bytes)), e <= 13 - m);
        b.due("it is that then", b.x.pointer(0, 4), e <= 13 - m ? e : 0);
      }
    }
    read("on a shelf, 9", true, 131, 9);
    read("on a shelf, 10", false, 131, 10);
  }

  private static void permitsAndKinds() {
    b.about("permits, KINDS 7 at most;");
    for (int at : new int[] {6, 126, 134}) {
      read("permits 0", true, at, 0);
      read("permits 7", true, at, 7);
      read("permits 8", false, at, 8);
      read("permits 255", false, at, 255);
    }
    for (int at : new int[] {7, 127}) {
      read("kind 0", true, at, 0);
      read("kind 7", true, at, 7);
      read("kind 8", false, at, 8);
      read("kind 255", false, at, 255);
    }
  }

  private static void bottomsAndTops() {
    b.about("B, T below W, T less B, modulo W, W / 2 at most;");
    for (int m = 4; m <= 8; m++) {
      int w = 1 << m;
      int[][] rows = {{0, 0}, {0, w / 2}, {0, w / 2 + 1}, {0, w - 1}, {w - 1, w - 1}, {w - 1, 0}, {w - 1, w / 2 - 1}, {w - 1, w / 2}, {w / 2, 0}, {w / 2 - 1, 0}, {1, 0}, {w / 2 + 1, 1}};
      int[] due = {1, 1, 0, 0, 1, 1, 1, 0, 1, 0, 0, 1};
      for (int i = 0; i < rows.length; i++) {
        int[] bytes = plain(m);
        bytes[12] = rows[i][0];
        bytes[13] = rows[i][1];
        b.due("B " + rows[i][0] + ", T " + rows[i][1] + " by M " + m, b.on(closed(bytes)), due[i] == 1);
        b.due("status(7)", b.x.status(7), 1 - due[i]);
      }
      if (m == 8) continue;
      int[] bytes = plain(m);
      bytes[4] = w;
      b.due("B of W", b.on(closed(bytes)), false);
      bytes = plain(m);
      bytes[5] = w;
      b.due("T of W", b.on(closed(bytes)), false);
      bytes = plain(m);
      bytes[4] = w;
      bytes[5] = w;
      b.due("B and T of W", b.on(closed(bytes)), false);
    }
    read("on a shelf, T less B 8", true, 132, 9, 1);
    read("on a shelf, T less B 9", false, 132, 9, 2);
    read("on a shelf, B 16", false, 132, 16, 1);
    read("on a shelf, T 16", false, 132, 15, 16);
  }

  private static void onShelvesOfItsKind() {
    b.about("on SHELVES of its KIND;");
    int[] one = {1, 0, 16, 0, 0, 8, 3, 0};
    for (int at : new int[] {128, 152, SECOND, SECOND + 24}) {
      for (int kind = 0; kind <= 8; kind++) {
        one[7] = kind;
        read("kind " + kind + " at byte " + at, kind == (at < SECOND ? 2 : 7), at, one);
      }
    }
    one[7] = 2;
    one[0] = 0;
    read("not valid", true, 128, one);
    read("behind an empty place", true, 144, one);
  }

  private static void objectsInTheHeap() {
    b.about("OBJECTS in the HEAP,");
    read("from 16 on", true, OBJECTS + 1, 0, 16, 0, 1, 0, 1);
    read("from 15 on", false, OBJECTS + 1, 0, 15, 0, 1, 0, 1);
    read("from 0 on", false, OBJECTS + 1, 0, 0, 0, 1, 0, 1);
    read("the last byte", true, OBJECTS + 7, 0, 63, 0, 1, 0, 1);
    read("behind the last byte", false, OBJECTS + 7, 0, 64, 0, 1, 0, 1);
    read("to the end", true, OBJECTS + 7, 0, 56, 0, 8, 0, 8);
    read("beyond the end", false, OBJECTS + 7, 0, 57, 0, 8, 0, 8);
    read("beyond the end by far", false, OBJECTS + 7, 0, 24, 1, 0, 0, 1);
    read("behind it by far", false, OBJECTS + 7, 1, 24, 0, 8, 0, 8);
    read("beyond what addresses there are", false, OBJECTS + 7, 255, 255, 255, 255, 0, 1);
  }

  private static int[] ofOneByteEach(int n) {
    int[] bytes = new int[OBJECTS + 2 + 6 * n];
    for (int i = 128; i < OBJECTS; i++) bytes[i] = 255;
    bytes[OBJECTS] = n;
    for (int i = 0; i < n; i++) {
      bytes[OBJECTS + 2 + 6 * i] = 16 + i;
      bytes[OBJECTS + 4 + 6 * i] = 1;
      bytes[OBJECTS + 6 + 6 * i] = 1;
    }
    return closed(bytes);
  }

  private static void thirtyTwo() {
    b.about("OBJECTS in the HEAP, 32 at most,");
    for (int n : new int[] {0, 1, 31, 32, 33, 48}) {
      b.fresh();
      scene();
      readAll(n + " objects", n <= 32, ofOneByteEach(n));
      b.due("objects", b.x.has(3), n <= 32 ? n : 2);
      b.due("one more", b.x.room(1), n < 32 ? 16 + n : n == 32 ? -1 : 34);
    }
  }

  private static void risingAndApart() {
    b.about("rising, none in another,");
    read("side by side", true, OBJECTS + 1, 0, 17, 0, 7, 0, 7, 0, 24);
    read("apart", true, OBJECTS + 1, 0, 17, 0, 6, 0, 6, 0, 24);
    read("one byte in both", false, OBJECTS + 1, 0, 17, 0, 8, 0, 8, 0, 24);
    read("of one base", false, OBJECTS + 1, 0, 24, 0, 1, 0, 1, 0, 24);
    read("falling", false, OBJECTS + 1, 0, 34, 0, 8, 0, 8, 0, 24);
    read("one within the other", false, OBJECTS + 1, 0, 16, 0, 32, 0, 32, 0, 24);
  }

  private static void exactOnes() {
    b.about("EXACT, asked for 1 .. length)");
    read("eight from 25 on", true, OBJECTS + 7, 0, 25, 0, 8, 0, 8);
    read("nine from 25 on", false, OBJECTS + 7, 0, 25, 0, 9, 0, 9);
    read("nine from 24 on", false, OBJECTS + 7, 0, 24, 0, 9, 0, 9);
    read("ten from 25 on", false, OBJECTS + 7, 0, 25, 0, 10, 0, 10);
    read("ten from 26 on", true, OBJECTS + 7, 0, 26, 0, 10, 0, 10);
    read("sixteen from 26 on", true, OBJECTS + 7, 0, 26, 0, 16, 0, 16);
    read("eighteen from 26 on", false, OBJECTS + 7, 0, 26, 0, 18, 0, 18);
    read("twenty from 26 on", false, OBJECTS + 7, 0, 26, 0, 20, 0, 20);
    read("twenty from 28 on", true, OBJECTS + 7, 0, 28, 0, 20, 0, 20);
  }

  private static void askedFor() {
    b.about("none in another, EXACT, asked for 1 .. length)");
    read("one", true, OBJECTS + 11, 0, 1);
    read("none", false, OBJECTS + 11, 0, 0);
    read("all", true, OBJECTS + 11, 0, 10);
    read("one more", false, OBJECTS + 11, 0, 11);
    read("far more", false, OBJECTS + 11, 1, 0);
    read("none of nothing", false, OBJECTS + 7, 0, 24, 0, 0, 0, 0);
    read("one of nothing", false, OBJECTS + 7, 0, 24, 0, 0, 0, 1);
  }

  private static void noneOfThisMachine() {
    b.about("false, refused (7), when it is none");
    b.fresh();
    scene();
    int[] bytes = image();
    for (int n : new int[] {0, 1, 2, 8, 128, OBJECTS, OBJECTS + 1, bytes.length - 6, bytes.length - 1}) {
      int[] cut = new int[n];
      System.arraycopy(bytes, 0, cut, 0, n);
      b.fresh();
      scene();
      readAll("cut to " + n, false, n == 0 ? cut : closed(cut));
    }
    for (int n : new int[] {bytes.length - 1, bytes.length - 6, 1, 0}) {
      b.fresh();
      scene();
      b.tape(Bench.textOf(bytes));
      b.x.end(n);
      b.due("what was behind the tape's end is no part of it, " + n, b.x.on(), false);
      b.due("status(7)", b.x.status(7), 1);
    }
    int[] longer = new int[bytes.length + 1];
    System.arraycopy(bytes, 0, longer, 0, bytes.length);
    b.fresh();
    scene();
    readAll("a byte too many", false, longer);
    b.fresh();
    scene();
    readAll("a byte too many, closed anew", false, closed(longer));
    for (int n : new int[] {0, 1, 3, 32, 255}) read("objects told as " + n, false, OBJECTS, n);
    String[] others = {"memory 64 mantissa 4;", "memory 64 mantissa 4;shelf a kind 2;", M + "shelf c kind 1;", "memory 64 mantissa 4;shelf a kind 3;shelf b kind 7;", "memory 64 mantissa 5;shelf a kind 2;shelf b kind 7;"};
    for (String other : others) {
      b.fresh();
      b.machine(other);
      b.due("of another machine than " + other, b.on(bytes), false);
      b.due("status(7)", b.x.status(7), 1);
    }
    b.fresh();
    b.machine("memory 128 mantissa 4;shelf c kind 2;shelf d kind 7;pads 3;traps all;");
    b.due("of a machine that has the same places and bits", b.on(bytes), true);
  }

  private static void without() {
    b.about("or without a machine, all staying.");
    scene();
    int[] bytes = image();
    b.fresh();
    b.due("without a machine", b.on(bytes), false);
    b.due("status(7)", b.x.status(7), 1);
    b.due("the tape is gone", b.x.feed(0, 0, 0, 0, 0), 20);
    b.due("no machine still", b.x.has(0), 0);
    b.due("no pointer", b.x.pointer(0, 0), -1);
    b.due("no object", b.x.object(0, 0), -1);
  }
}
