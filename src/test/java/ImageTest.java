/** Promises 42 to 44: image, octet, on. */
public final class ImageTest {
  private static final Bench b = new Bench("ImageTest");
  private static final String MACHINE = "memory 64 mantissa 4;shelf a kind 2;";
  /** Where the places of the shelf and the objects begin, with one shelf. */
  private static final int PLACES = 128;
  private static final int OBJECTS = 160;

  public static void main(String[] args) {
    withoutAMachine();
    writing();
    readingBack();
    whatCannotBe();
    ofAnotherMachine();
    b.ends();
  }

  private static void withoutAMachine() {
    b.fresh();
    b.due("image", b.x.image(), -1);
    b.due("octet(0)", b.x.octet(0), -1);
    b.due("on", b.on(1), false);
    b.due("status(7)", b.x.status(7), 1);
    b.due("the tape is gone", b.x.end(1), false);
  }

  /** Objects 16 .. 24 of 8 and 24 .. 34 of 9; pointer 0, a sealed one on the first place. */
  private static void prepare() {
    b.machine(MACHINE);
    b.x.move(15, 2);
    b.x.alloc(0, 8);
    b.x.alloc(1, 9);
    b.x.copy(0, 2);
    b.x.seal(2, 15);
    b.x.shelve(2, 0);
    b.x.store(0, 99);
    b.x.move(1, 300);
  }

  private static int[] image() {
    int[] bytes = new int[b.x.image()];
    for (int i = 0; i < bytes.length; i++) bytes[i] = b.x.octet(i);
    return bytes;
  }

  private static int[] sealed(int... bytes) {
    int c = 149;
    for (int i = 0; i < bytes.length - 1; i++) c = (3 * c + bytes[i]) % 251;
    bytes[bytes.length - 1] = c;
    return bytes;
  }

  private static void part(String what, int[] bytes, int from, int... want) {
    for (int i = 0; i < want.length; i++) b.due(what + ", byte " + i, bytes[from + i], want[i]);
  }

  private static void writing() {
    prepare();
    int[] bytes = image();
    b.due("how many", bytes.length, OBJECTS + 1 + 12 + 1);
    part("pointer 0", bytes, 0, 1, 0, 16, 0, 0, 8, 3, 0);
    part("pointer 1", bytes, 8, 0, 1, 68, 1, 12, 1, 3, 0);
    part("pointer 2", bytes, 16, 1, 0, 16, 0, 0, 8, 3, 2);
    part("pointer 3", bytes, 24, 0, 0, 0, 0, 0, 0, 0, 0);
    part("pointer 15", bytes, 120, 1, 0, 2, 9, 0, 8, 7, 0);
    part("a place", bytes, PLACES, 1, 0, 16, 0, 0, 8, 3, 2);
    part("an empty place", bytes, PLACES + 8, 255, 255, 255, 255, 255, 255, 255, 255);
    part("objects", bytes, OBJECTS, 2, 0, 16, 0, 8, 0, 8, 0, 24, 0, 10, 0, 9);
    b.due("the last", bytes[bytes.length - 1], sealed(bytes.clone())[bytes.length - 1]);
    b.due("behind it", b.x.octet(bytes.length), -1);
    b.due("octet(-1)", b.x.octet(-1), -1);
    b.x.free(0);
    b.due("of the latest image", b.x.octet(0), 1);
    b.x.image();
    b.due("of the latest image", b.x.octet(0), 0);
    b.due("no act", b.x.undo() && b.x.has(3) == 2, true);
    b.machine("memory 1024 mantissa 8;shelf a kind 1;shelf b kind 1;shelf c kind 1;shelf d kind 1;");
    for (int i = 0; i < 32; i++) b.x.alloc(i % 16, 20);
    b.due("the longest", b.x.image(), 8 * 32 + 1 + 6 * 32 + 1);
    b.due("its objects", b.x.octet(256), 32);
    b.due("a length", b.x.octet(260), 20);
  }

  private static void readingBack() {
    prepare();
    b.see(64, 1);
    b.x.seed(5);
    int[] bytes = image();
    b.x.free(0);
    b.x.take(0, 0, 7);
    b.due("on", b.on(bytes), true);
    b.due("the tape is gone", b.x.end(1), false);
    int[] again = image();
    b.due("as many", again.length, bytes.length);
    part("as it tells", again, 0, bytes);
    b.due("memory is 0", b.x.octetAt(16), 0);
    b.due("nothing is kept", b.x.has(7), 0);
    b.due("nothing can be undone", b.x.has(9), 0);
    b.due("nothing can be undone", b.x.undo(), false);
    b.due("what is seen stays", b.x.has(8), 1);
    b.due("objects", b.x.object(1, 1), 10);
    b.due("free", b.x.free(0), 8);
    b.due("on the shelf, too", b.x.shelf(0, 0, 0), 0);
    int[] freed = image();
    b.due("not valid on a shelf", b.on(freed), true);
    b.due("not valid on a shelf", b.x.shelf(0, 0, 0), 0);
    b.due("unlike itself on a shelf", b.x.shelf(0, 1, 0), -1);
  }

  private static void refused(String what, int[] bytes, int at, int... values) {
    int[] spoilt = bytes.clone();
    for (int i = 0; i < values.length; i++) spoilt[at + i] = values[i];
    int before = b.x.status(7);
    b.due(what, b.on(sealed(spoilt)), false);
    b.due(what + ", counted", b.x.status(7), before + 1);
    b.due(what + ", all staying", b.x.has(9), 9);
    b.due(what + ", all staying", b.x.octetAt(16), 99);
  }

  private static void taken(String what, int[] bytes, int at, int... values) {
    int[] changed = bytes.clone();
    for (int i = 0; i < values.length; i++) changed[at + i] = values[i];
    b.due(what, b.on(sealed(changed)), true);
    part(what, image(), at, values);
    prepare();
  }

  private static void whatCannotBe() {
    prepare();
    b.x.seed(1);
    b.x.limit(5, 7);
    int[] bytes = image();
    b.x.undo();
    b.x.limit(5, 7);
    refused("a flag of 2", bytes, 0, 2);
    refused("an empty pointer", bytes, 8, 255, 255, 255, 255, 255, 255, 255, 255);
    refused("an address of 4096", bytes, 1, 16, 0);
    refused("E of 10", bytes, 3, 10);
    refused("B of W", bytes, 4, 16);
    refused("T of W", bytes, 5, 16);
    refused("a length above W / 2", bytes, 5, 9);
    refused("a length above W / 2, around", bytes, 4, 15, 8);
    refused("permits of 8", bytes, 6, 8);
    refused("a kind of 8", bytes, 7, 8);
    refused("a flag of 2 on a shelf", bytes, PLACES, 2);
    refused("empty but for the flag", bytes, PLACES + 8, 1);
    refused("a flag of 255 on a shelf", bytes, PLACES, 255);
    refused("of another kind on a shelf", bytes, PLACES + 7, 3);
    refused("not sealed on a shelf", bytes, PLACES + 7, 0);
    refused("empty in part", bytes, PLACES + 8, 255, 255, 255, 255, 255, 255, 255, 2);
    refused("other objects than told", bytes, OBJECTS, 1);
    refused("other objects than told", bytes, OBJECTS, 3);
    refused("ahead of the heap", bytes, OBJECTS + 1, 0, 15, 0, 8, 0, 8);
    refused("in another", bytes, OBJECTS + 1, 0, 17, 0, 8, 0, 8);
    refused("not rising", bytes, OBJECTS + 1, 0, 40, 0, 8, 0, 8);
    refused("behind memory", bytes, OBJECTS + 7, 0, 60, 0, 5, 0, 5);
    refused("behind memory by far", bytes, OBJECTS + 7, 255, 255, 255, 255, 0, 5);
    refused("not exact", bytes, OBJECTS + 7, 0, 25, 0, 9, 0, 9);
    refused("none asked for", bytes, OBJECTS + 7, 0, 24, 0, 10, 0, 0);
    refused("more asked for than there are", bytes, OBJECTS + 7, 0, 24, 0, 10, 0, 11);
    refused("nothing", bytes, OBJECTS + 7, 0, 24, 0, 0, 0, 0);
    lengthAndCheck(bytes);
    prepare();
    taken("an address of 4095", bytes, 1, 15, 255);
    taken("E of 9", bytes, 3, 9);
    taken("B and T", bytes, 4, 15, 7);
    taken("permits and kind of 7", bytes, 6, 7, 7);
    taken("another one on a shelf", bytes, PLACES + 8, 0, 1, 2, 3, 4, 5, 6, 2);
    taken("an object at the end", bytes, OBJECTS + 7, 0, 54, 0, 10, 0, 1);
    taken("an object aside", bytes, OBJECTS + 1, 0, 17, 0, 7, 0, 7);
  }

  private static void lengthAndCheck(int[] bytes) {
    int[] wrong = bytes.clone();
    wrong[wrong.length - 1] ^= 1;
    b.due("another last byte", b.on(wrong), false);
    b.due("nothing at all", b.on(), false);
    int[] shorter = new int[bytes.length - 1];
    System.arraycopy(bytes, 0, shorter, 0, shorter.length);
    b.due("a byte too few", b.on(sealed(shorter)), false);
    int[] longer = new int[bytes.length + 1];
    System.arraycopy(bytes, 0, longer, 0, bytes.length);
    b.due("a byte too many", b.on(sealed(longer)), false);
    b.due("33 objects", b.on(sealed(withObjects(33))), false);
    b.due("32 objects of one byte", b.on(sealed(withObjects(32))), true);
    b.due("objects", b.x.has(3), 32);
  }

  private static int[] withObjects(int n) {
    int[] bytes = new int[OBJECTS + 1 + 6 * n + 1];
    for (int i = PLACES; i < OBJECTS; i++) bytes[i] = 255;
    bytes[OBJECTS] = n;
    for (int i = 0; i < n; i++) {
      bytes[OBJECTS + 1 + 6 * i + 1] = 16 + i;
      bytes[OBJECTS + 1 + 6 * i + 3] = 1;
      bytes[OBJECTS + 1 + 6 * i + 5] = 1;
    }
    return bytes;
  }

  private static void ofAnotherMachine() {
    b.machine("memory 64 mantissa 4;");
    int[] bytes = image();
    b.machine("memory 64 mantissa 8;");
    b.due("E too great", b.on(bytes), false);
    b.machine(MACHINE);
    b.due("with another shelf", b.on(bytes), false);
    b.machine("memory 1024 mantissa 4;");
    b.due("of like bounds", b.on(bytes), true);
    b.due("by a question", b.ask("total valid"), 1);
  }
}
