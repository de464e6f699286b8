/** What is seen, places and telling at their edges: terms III, promises 23 to 25, words by words. */
public final class SightEdgesTest {
  private static final int MIN = Integer.MIN_VALUE;
  private static final int MAX = Integer.MAX_VALUE;
  private static final String M = "memory 64 mantissa 4;";
  private static final Bench b = new Bench("SightEdgesTest");

  public static void main(String[] args) {
    rowsOfSteps();
    placesThatAreSo();
    windowsOfAllBases();
    theFewest();
    ofLikeOnesTheFirst();
    howManyRows();
    noSuchRows();
    placesOfAPointer();
    noSuchPlaces();
    telling();
    tellingNone();
    b.ends();
  }

  /** Pointer 0 has its window from 12 to 27. */
  private static void machine() {
    b.due("machine", b.machine(M), 1);
    b.x.alloc(0, 8);
  }

  private static void placesAre(int pointer, int... want) {
    b.due("how many", b.x.places(pointer, -1), want.length);
    for (int k = 0; k < want.length; k++) b.due("place " + k, b.x.places(pointer, k), want[k]);
    b.due("no more", b.x.places(pointer, want.length), -1);
  }

  // ---- terms III

  private static void rowsOfSteps() {
    b.about("SEEN are rows of a step and 64 (0 .. 127), 1 if it FITS from there, else 0:");
    machine();
    b.due("a step of 15", b.see(64 + 15, 1), 1);
    placesAre(0, 12);
    b.due("a step of -15", b.see(64 - 15, 1), 1);
    placesAre(0, 27);
    b.due("a step of -14", b.see(64 - 14, 1), 1);
    placesAre(0, 26, 27);
    b.due("a step of 16", b.see(64 + 16, 1), 1);
    placesAre(0);
    b.due("a step of 1 does not fit", b.see(64 + 1, 0), 1);
    placesAre(0, 27);
    b.due("a step of -1 does not fit", b.see(64 - 1, 0), 1);
    placesAre(0, 12);
    b.machine("memory 256 mantissa 7;");
    b.x.alloc(0, 64);
    // The window is 16 - 32 .. 111, around 0.
    b.due("a step of 63, the last", b.see(127, 1), 1);
    b.due("places", b.x.places(0, -1), 65);
    b.due("the last of them from the lowest on", b.x.places(0, 48), 48);
    b.due("around", b.x.places(0, 49), 4080);
    b.due("a step of -64, the first", b.see(0, 1), 1);
    b.due("places", b.x.places(0, -1), 64);
    b.due("the first of them", b.x.places(0, 0), 48);
  }

  private static void placesThatAreSo() {
    b.about("PLACES of a POINTER are those addresses from which its bounds are as now, and all is so.");
    machine();
    placesAre(0, 12, 13, 14, 15, 16, 17, 18, 19, 20, 21, 22, 23, 24, 25, 26, 27);
    b.see(64, 1);
    b.due("a step of 0 fits from each", b.x.places(0, -1), 16);
    b.see(64, 0);
    placesAre(0);
    b.see(64 + 5, 1, 64 + 9, 0, 64 - 8, 1);
    placesAre(0, 20, 21, 22);
    b.see(64 + 5, 1, 64 + 5, 0);
    placesAre(0);
    b.see(64 + 13, 1, 64 + 13, 1);
    placesAre(0, 12, 13, 14);
    b.x.move(0, 9);
    placesAre(0, 12, 13, 14);
    b.x.move(0, 3);
    b.due("not valid, its bounds are others now", b.x.pointer(0, 0), 0);
    placesAre(0, 28, 29, 30);
    b.see(64 - 10, 1);
    placesAre(1, 6, 7, 8, 9, 10, 11);
    b.see(64 + 10, 1);
    placesAre(1, 0, 1, 4092, 4093, 4094, 4095);
    b.x.copy(15, 2);
    b.x.move(2, 1);
    b.x.alloc(3, 8);
    b.x.seal(3, 2);
    b.see(64 + 15, 1);
    placesAre(3, 20);
  }

  private static void windowsOfAllBases() {
    b.about("are those addresses from which its bounds are as now,");
    for (int m = 4; m <= 8; m++) {
      int w = 1 << m;
      for (int base : new int[] {512, 513, 514, 515, 512 + w / 4 - 1, 512 + w / 4, 512 + w / 2 + 1, 511 + w}) {
        b.fresh();
        b.due("machine", b.machine("memory 64 mantissa " + m + ";"), 1);
        b.x.move(15, base);
        b.due("narrow", b.x.narrow(15, 0, w / 2), w / 2);
        b.due("how many from " + base + " on", b.x.places(0, -1), w);
        b.due("the first", b.x.places(0, 0), base - w / 4);
        b.due("the last", b.x.places(0, w - 1), base - w / 4 + w - 1);
        b.due("half of them, or as far as a step goes", b.x.tells(0, 1), Math.max(w / 2, w - 64));
        b.due("by the first such step", b.x.tells(0, 0), 64 - Math.min(64, w / 2));
      }
    }
  }

  private static void theFewest() {
    b.about("TELLING is the step (-64 .. 63) by which, FITTING from there or not, the most PLACES left are fewest;");
    machine();
    b.due("eight back halves sixteen", b.x.tells(0, 0), 64 - 8);
    b.due("left", b.x.tells(0, 1), 8);
    b.see(64 + 13, 1);
    // 12, 13, 14: two back, one is left or two; so is one back.
    b.due("of three", b.x.tells(0, 0), 64 - 2);
    b.due("left", b.x.tells(0, 1), 2);
    b.see(64 + 14, 1);
    b.due("of two", b.x.tells(0, 0), 64 - 1);
    b.due("left", b.x.tells(0, 1), 1);
    b.see(64 - 14, 1);
    // 26 and 27: fifteen back fits from 27 alone.
    b.due("of two, at the end", b.x.tells(0, 0), 64 - 15);
    b.due("left", b.x.tells(0, 1), 1);
    b.machine("memory 512 mantissa 8;");
    b.x.alloc(0, 128);
    b.due("64 back is the most of 256", b.x.tells(0, 0), 0);
    b.due("left", b.x.tells(0, 1), 192);
    // The window is 16 - 64 .. 207. From 16 on up to 143 both 64 on and 64 back fit: no step tells them apart but back.
    b.see(0, 1);
    b.due("those from 16 on", b.x.places(0, -1), 192);
    b.due("63 on loses 63 of them", b.x.tells(0, 0), 127);
    b.due("left", b.x.tells(0, 1), 129);
  }

  private static void ofLikeOnesTheFirst() {
    b.about("the most PLACES left are fewest; of like ones the first.");
    machine();
    b.see(64 + 15, 1);
    b.due("one place, whatever the step is", b.x.tells(0, 0), 0);
    b.due("left", b.x.tells(0, 1), 1);
    b.due("a window of all, whatever the step is", b.x.tells(15, 0), 0);
    b.see(64, 1);
    b.due("a window of all", b.x.tells(15, 0), 0);
    b.due("left", b.x.tells(15, 1), 4096);
    b.due("eight back ahead of eight on", b.x.tells(0, 0), 64 - 8);
    b.see(64 - 1, 1);
    // 13 .. 27: seven or eight are left by 8 back, by 9 back, by 7 on and by 8 on.
    b.due("of fifteen", b.x.tells(0, 0), 64 - 9);
    b.due("left", b.x.tells(0, 1), 8);
    b.see(64 + 1, 1);
    // 12 .. 26: by 8 back, 8 or 7; by 7 back, 7 or 8.
    b.due("of fifteen", b.x.tells(0, 0), 64 - 8);
    b.due("left", b.x.tells(0, 1), 8);
  }

  // ---- promises 23 to 25

  private static void howManyRows() {
    b.about("The tape (it goes) tells what is SEEN, 1 to 16 rows of two bytes: how many rows;");
    machine();
    b.due("one row", b.see(64, 1), 1);
    b.due("the tape is gone", b.x.end(1), false);
    b.due("has(8)", b.x.has(8), 1);
    int[] rows = new int[32];
    for (int i = 0; i < 16; i++) rows[2 * i] = 64 + i;
    for (int i = 0; i < 15; i++) rows[2 * i + 1] = 1;
    b.due("sixteen rows", b.see(rows), 16);
    b.due("has(8)", b.x.has(8), 16);
    // The last row, 15 on does not fit, leaves 13 alone.
    placesAre(0, 13);
    b.due("fewer rows", b.see(64 + 13, 1, 64 + 14, 0), 2);
    placesAre(0, 14);
    b.due("has(8)", b.x.has(8), 2);
    b.due("no act", b.x.has(9), 1);
    b.due("nothing is refused", b.x.status(1), 0);
  }

  private static void noSuchRows() {
    b.about("NONE, refused (1), all staying, when it is none such, or without a machine.");
    b.due("without a machine", b.see(64, 1), -1);
    b.due("status(1)", b.x.status(1), 1);
    b.due("the tape is gone", b.x.feed(0, 0, 0, 0, 0), 20);
    machine();
    b.see(64 + 15, 1);
    int refused = 1;
    // What was behind the tape's end is no part of it.
    for (int n : new int[] {1, 3, 31}) {
      b.tape(Bench.textOf(1, 1, 1, 1).repeat(8));
      b.x.end(n);
      b.due(n + " bytes, more behind them", b.x.see(), -1);
      b.due("status(1)", b.x.status(1), ++refused);
      b.due("has(8) stays", b.x.has(8), 1);
    }
    int[][] wrong = {
      {}, {64}, {64, 1, 64}, {128, 1}, {255, 1}, {64, 2}, {64, 255}, {64, 1, 128, 0}, {64, 1, 64, 2}, new int[33], new int[34], new int[40]
    };
    for (int[] rows : wrong) {
      b.due(rows.length + " bytes", b.see(rows), -1);
      b.due("status(1)", b.x.status(1), ++refused);
      b.due("the tape is gone", b.x.feed(0, 0, 0, 0, 0), 20);
      b.due("has(8) stays", b.x.has(8), 1);
      placesAre(0, 12);
    }
    b.due("the first and the last that can be", b.see(0, 0, 127, 0), 2);
  }

  private static void placesOfAPointer() {
    b.about("PLACES of a POINTER by what is SEEN: how many (k NONE), the k-th, rising.");
    machine();
    b.due("how many", b.x.places(0, FatPointers.NONE), 16);
    b.due("the first", b.x.places(0, 0), 12);
    b.due("the last", b.x.places(0, 15), 27);
    b.due("how many of all", b.x.places(15, -1), 4096);
    b.due("the first of all", b.x.places(15, 0), 0);
    b.due("the last of all", b.x.places(15, 4095), 4095);
    b.due("rising around", b.x.places(1, 11), 11);
    b.due("rising around", b.x.places(1, 12), 4092);
    b.due("rising around", b.x.places(1, 15), 4095);
    b.see(64, 0);
    b.due("none", b.x.places(0, -1), 0);
  }

  private static void noSuchPlaces() {
    b.about("the k-th, rising. NONE when there is none such, or without a machine.");
    b.due("without a machine", b.x.places(15, -1), -1);
    b.due("without a machine", b.x.places(15, 0), -1);
    machine();
    for (int k : new int[] {-2, 16, 4096, MIN, MAX}) b.due("places(0, " + k + ")", b.x.places(0, k), -1);
    for (int k : new int[] {-2, 4096, MIN, MAX}) b.due("places(15, " + k + ")", b.x.places(15, k), -1);
    for (int p : new int[] {-1, 16, MIN, MAX}) {
      b.due("places(" + p + ", -1)", b.x.places(p, -1), -1);
      b.due("places(" + p + ", 0)", b.x.places(p, 0), -1);
    }
    b.see(64, 0);
    b.due("nowhere", b.x.places(0, 0), -1);
  }

  private static void telling() {
    b.about("TELLING of a POINTER: the step and 64 (what 0), how many PLACES are left at the most (1).");
    machine();
    b.due("the step and 64", b.x.tells(0, 0), 56);
    b.due("left", b.x.tells(0, 1), 8);
    b.due("the first step of all and 64", b.x.tells(15, 0), 0);
    b.due("all are left", b.x.tells(15, 1), 4096);
  }

  private static void tellingNone() {
    b.about("NONE without any, when there is none such, without a machine, or for others.");
    for (int what : new int[] {0, 1}) b.due("without a machine", b.x.tells(15, what), -1);
    machine();
    for (int p : new int[] {-1, 16, MIN, MAX}) {
      for (int what : new int[] {0, 1}) b.due("tells(" + p + ", " + what + ")", b.x.tells(p, what), -1);
    }
    for (int what : new int[] {-1, 2, MIN, MAX}) b.due("tells(0, " + what + ")", b.x.tells(0, what), -1);
    b.see(64, 0);
    for (int what : new int[] {0, 1}) b.due("without any", b.x.tells(0, what), -1);
    for (int what : new int[] {0, 1}) b.due("without any of all", b.x.tells(15, what), -1);
  }
}
