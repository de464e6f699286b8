/** Encoding, decoding and steps at their edges: terms II and III, promises 8 and 14 to 19, words by words. */
public final class BoundsEdgesTest {
  private static final int MIN = Integer.MIN_VALUE;
  private static final int MAX = Integer.MAX_VALUE;
  private static final Bench b = new Bench("BoundsEdgesTest");

  public static void main(String[] args) {
    addresses();
    halfAWindow();
    together();
    theLeastExponent();
    roundedOutwards();
    exactBounds();
    bottomAndTop();
    theWindow();
    around();
    allAddresses();
    sixteenPointers();
    atFirst();
    whatIsToldOfAPointer();
    noSuchPointer();
    rounding();
    roundingRefused();
    theLeastMantissa();
    fitting();
    fittingWhateverItIs();
    fittingRefused();
    quick();
    quickByTwos();
    dividedDownwards();
    quickRefused();
    windows();
    reaching();
    reachingNone();
    b.ends();
  }

  private static void machine(int mantissa) {
    b.due("machine", b.machine("memory 64 mantissa " + mantissa + ";"), 1);
  }

  /** Pointer 0 from an address on with a length, whatever it was, by pointer 15. */
  private static void point(int base, int length) {
    b.x.copy(15, 0);
    b.x.move(0, base);
    b.x.narrow(0, 0, length);
  }

  // ---- terms II

  private static void addresses() {
    b.about("Addresses are 0 .. 4095;");
    machine(4);
    b.due("to the last", b.x.move(15, 4095), true);
    b.due("the last", b.x.pointer(15, 1), 4095);
    b.due("one on", b.x.move(15, 1), true);
    b.due("the first", b.x.pointer(15, 1), 0);
    b.due("one back", b.x.move(15, -1), true);
    b.due("the last again", b.x.pointer(15, 1), 4095);
  }

  private static void together() {
    b.about("TO ENCODE a base and a length (base and length together 4096 at most)");
    machine(4);
    int[][] right = {{0, 0}, {0, 4096}, {1, 4095}, {4095, 1}, {4095, 0}, {4096, 0}, {2048, 2048}};
    for (int[] r : right) b.due("rounds(" + r[0] + ", " + r[1] + ", 0)", b.x.rounds(r[0], r[1], 0) >= 0, true);
    int[][] wrong = {{0, 4097}, {1, 4096}, {4095, 2}, {4096, 1}, {4097, 0}, {2048, 2049}};
    for (int[] w : wrong) b.due("rounds(" + w[0] + ", " + w[1] + ", 0)", b.x.rounds(w[0], w[1], 0), -1);
  }

  private static void halfAWindow() {
    b.about("M is mantissa, W is 2 to the M.");
    for (int m = 4; m <= 8; m++) {
      b.fresh();
      machine(m);
      b.due("M", b.x.has(1), m);
      b.due("W / 2 steps are the most", b.x.rounds(1, 1 << (m - 1), 0) == 0 && b.x.rounds(1, (1 << (m - 1)) + 1, 0) == 1, true);
      b.due("W addresses are a window", b.x.window(0, 0), 1 << m);
    }
  }

  private static void theLeastExponent() {
    b.about("E is the least number for which from the greatest multiple of 2 to the E not above base to the least one not below"
        + " base and length there are no more than W / 2 steps of 2 to the E;");
    for (int m = 4; m <= 8; m++) {
      b.fresh();
      machine(m);
      int half = 1 << (m - 1);
      b.due("nothing", b.x.rounds(0, 0, 0), 0);
      for (int e = 0; e <= 13 - m; e++) {
        b.due("the last length by " + e, b.x.rounds(0, half << e, 0), e);
        if (e < 13 - m) b.due("one more", b.x.rounds(0, (half << e) + 1, 0), e + 1);
        if (e > 0) b.due("the last length by " + e + ", not from a multiple on", b.x.rounds(1, (half << e) - 1, 0), e);
        if (e > 0 && e < 13 - m) b.due("rounded there are more", b.x.rounds(1, half << e, 0), e + 1);
        if (e > 0 && e < 13 - m) b.due("and so by its last byte", b.x.rounds((1 << e) - 1, half << e, 0), e + 1);
      }
      b.due("from 1 on, without rounding", b.x.rounds(1, half, 0), 0);
      b.due("from 1 on, one more", b.x.rounds(1, half + 1, 0), 1);
      b.due("at the end", b.x.rounds(4096 - half, half, 0), 0);
      b.due("at the end, one more", b.x.rounds(4095 - half, half + 1, 0), 1);
    }
  }

  private static void roundedOutwards() {
    b.about("these two are the ROUNDED bounds,");
    machine(4);
    int[][] rows = {
      {7, 8, 7, 8}, {7, 9, 6, 10}, {6, 9, 6, 10}, {8, 15, 8, 16}, {9, 15, 8, 16}, {9, 16, 8, 20}, {0, 4095, 0, 4096}, {1, 4095, 0, 4096},
      {511, 3000, 0, 3584}, {512, 3000, 512, 3072}, {4095, 1, 4095, 1}, {4087, 9, 4086, 10}, {4096, 0, 4096, 0}
    };
    for (int[] r : rows) {
      b.due("rounds(" + r[0] + ", " + r[1] + ", 1)", b.x.rounds(r[0], r[1], 1), r[2]);
      b.due("rounds(" + r[0] + ", " + r[1] + ", 2)", b.x.rounds(r[0], r[1], 2), r[3]);
    }
  }

  private static void exactBounds() {
    b.about("EXACT, if they are as asked;");
    machine(4);
    int[][] rows = {{7, 8, 1}, {7, 9, 0}, {6, 9, 0}, {7, 11, 0}, {6, 10, 1}, {6, 16, 1}, {0, 4096, 1}, {0, 4095, 0}, {1, 4095, 0}, {4096, 0, 1}, {3, 0, 1}};
    for (int[] r : rows) b.due("rounds(" + r[0] + ", " + r[1] + ", 3)", b.x.rounds(r[0], r[1], 3), r[2]);
  }

  private static void bottomAndTop() {
    b.about("B and T are they divided by 2 to the E, modulo W.");
    machine(4);
    int[][] rows = {{7, 8, 7, 15}, {8, 8, 8, 0}, {9, 8, 9, 1}, {15, 1, 15, 0}, {16, 0, 0, 0}, {16, 8, 0, 8}, {30, 16, 15, 7}, {4095, 1, 15, 0}, {0, 4096, 0, 8}, {2048, 2048, 8, 0}};
    for (int[] r : rows) {
      point(r[0], r[1]);
      b.due("B of " + r[0] + ", " + r[1], b.x.pointer(0, 5), r[2]);
      b.due("T of " + r[0] + ", " + r[1], b.x.pointer(0, 6), r[3]);
      b.due("base of " + r[0] + ", " + r[1], b.x.pointer(0, 2), r[0]);
      b.due("length of " + r[0] + ", " + r[1], b.x.pointer(0, 3), r[1]);
    }
  }

  /** Each B by W 16: the correction is 0, -1 or 1 as the address and B lie below the edge or not. */
  private static void theWindow() {
    b.about("TO DECODE from an address A: MID is A divided by 2 to the E, modulo W; EDGE is B less W / 4, modulo W; C is 0, if MID and B are both below"
        + " EDGE or both not, -1 if just MID is below EDGE, 1 if just B is;");
    for (int base = 32; base < 48; base++) {
      b.fresh();
      machine(4);
      point(base, 8);
      b.due("B", b.x.pointer(0, 5), base - 32);
      for (int at = base - 4; at < base + 12; at++) {
        b.x.move(0, at - b.x.pointer(0, 1));
        b.due("base " + base + " from " + at, b.x.pointer(0, 2), base);
        b.due("length from " + at, b.x.pointer(0, 3), 8);
        b.due("valid at " + at, b.x.pointer(0, 0), 1);
      }
      b.x.copy(0, 1);
      b.due("one on from the last", b.x.move(1, 1), false);
      b.due("its base", b.x.pointer(1, 2), base + 16);
      b.due("one back from the first", b.x.move(0, -16), false);
      b.due("its base", b.x.pointer(0, 2), base - 16);
      b.due("its length", b.x.pointer(0, 3), 8);
    }
  }

  private static void around() {
    b.about("the base is A divided by 2 to the (E and M) and C, together times 2 to the (E and M), and B times 2 to the E, modulo 4096;");
    machine(4);
    point(0, 8);
    b.due("four back, around", b.x.move(0, -4), true);
    b.due("its base from 4092", b.x.pointer(0, 2), 0);
    b.due("one more", b.x.move(0, -1), false);
    b.due("its base from 4091", b.x.pointer(0, 2), 4080);
    point(4090, 4);
    b.due("eleven on, around", b.x.move(0, 11), true);
    b.due("its base from 5", b.x.pointer(0, 2), 4090);
    b.due("one more", b.x.move(0, 1), false);
    b.due("its base from 6", b.x.pointer(0, 2), 10);
    point(3, 2);
    b.due("one below the first of its window", b.x.move(0, -5), false);
    b.due("its base from 4094", b.x.pointer(0, 2), 4083);
    point(4095, 1);
    b.due("to 4090, below its window", b.x.move(0, -5), false);
    b.due("its base", b.x.pointer(0, 2), 4079);
  }

  private static void allAddresses() {
    b.about("the length is T less B, modulo W, times 2 to the E.");
    for (int m = 4; m <= 8; m++) {
      b.fresh();
      machine(m);
      int half = 1 << (m - 1);
      for (int e = 0; e <= 13 - m; e++) {
        point(0, half << e);
        b.due("E", b.x.pointer(0, 4), e);
        b.due("the longest by " + e, b.x.pointer(0, 3), half << e);
        if (e == 13 - m) continue;
        point(4096 - (half << e), half << e);
        b.due("T is 0", b.x.pointer(0, 6), 0);
        b.due("around W, the longest by " + e, b.x.pointer(0, 3), half << e);
      }
      point(9, 0);
      b.due("the shortest", b.x.pointer(0, 3), 0);
    }
  }

  private static void sixteenPointers() {
    b.about("There are 16 POINTERS:");
    machine(4);
    for (int p : new int[] {0, 15}) {
      b.due("pointer(" + p + ", 1)", b.x.pointer(p, 1), 0);
      b.due("fits(" + p + ", 0)", b.x.fits(p, 0), 1);
      b.due("quick(" + p + ", 0)", b.x.quick(p, 0), 1);
      b.due("window(" + p + ", 0)", b.x.window(p, 0) > 0, true);
      b.due("places(" + p + ", -1)", b.x.places(p, -1) > 0, true);
      b.due("tells(" + p + ", 0)", b.x.tells(p, 0) >= 0, true);
      b.due("move(" + p + ", 0)", b.x.move(p, 0), p == 15);
      b.due("alloc(" + p + ", 1)", b.x.alloc(p, 1) >= 16, true);
    }
    for (int p : new int[] {-1, 16, MIN, MAX}) {
      b.due("pointer(" + p + ", 1)", b.x.pointer(p, 1), -1);
      b.due("fits(" + p + ", 0)", b.x.fits(p, 0), -1);
      b.due("quick(" + p + ", 0)", b.x.quick(p, 0), -1);
      b.due("window(" + p + ", 0)", b.x.window(p, 0), -1);
      b.due("places(" + p + ", -1)", b.x.places(p, -1), -1);
      b.due("tells(" + p + ", 0)", b.x.tells(p, 0), -1);
    }
  }

  private static void atFirst() {
    b.about("At first all are 0 and not VALID, but POINTER 15: VALID, address 0, what base 0, length 4096 ENCODE, permits 7. Memory is 0.");
    for (int m = 4; m <= 8; m++) {
      b.fresh();
      machine(m);
      for (int p = 0; p < 15; p++) b.pointerIs(p, 0, 0, 0, 0, 0, 0, 0, 0, 0);
      b.pointerIs(15, 1, 0, 0, 4096, 13 - m, 0, 1 << (m - 1), 7, 0);
      for (int a = 0; a < 64; a++) b.due("octetAt(" + a + ")", b.x.octetAt(a), 0);
    }
  }

  // ---- promises 8, 14, 15

  private static void whatIsToldOfAPointer() {
    b.about("Of a POINTER: 0 whether VALID, 1 its address, 2 the base, 3 the length as DECODED, 4 E, 5 B, 6 T, 7 permits, 8 KIND.");
    machine(4);
    b.x.move(15, 5);
    b.x.alloc(2, 10);
    b.x.move(2, 3);
    b.pointerIs(2, 1, 19, 16, 10, 1, 8, 13, 3, 0);
    b.x.seal(2, 15);
    b.pointerIs(2, 1, 19, 16, 10, 1, 8, 13, 3, 5);
    b.x.unseal(2, 15);
    b.x.limit(2, 2);
    b.x.move(2, -12);
    b.pointerIs(2, 0, 7, 4080, 10, 1, 8, 13, 2, 0);
  }

  private static void noSuchPointer() {
    b.about("NONE when there is none such, without a machine, or for others. ## Promise 9: shelf");
    b.due("without a machine", b.x.pointer(0, 0), -1);
    machine(4);
    for (int p : new int[] {-1, 16, MIN, MAX}) {
      for (int what = 0; what < 9; what++) b.due("pointer(" + p + ", " + what + ")", b.x.pointer(p, what), -1);
    }
    for (int what : new int[] {-1, 9, MIN, MAX}) b.due("pointer(15, " + what + ")", b.x.pointer(15, what), -1);
  }

  private static void rounding() {
    b.about("A base and a length (0 .. 4096 together) ENCODED: 0 E, 1 the ROUNDED base, 2 the ROUNDED length, 3 whether EXACT.");
    machine(4);
    int[][] rows = {{7, 9, 1, 6, 10, 0}, {6, 10, 1, 6, 10, 1}, {0, 0, 0, 0, 0, 1}, {4096, 0, 0, 4096, 0, 1}, {0, 4096, 9, 0, 4096, 1}};
    for (int[] r : rows) {
      for (int what = 0; what < 4; what++) b.due("rounds(" + r[0] + ", " + r[1] + ", " + what + ")", b.x.rounds(r[0], r[1], what), r[2 + what]);
    }
  }

  private static void roundingRefused() {
    b.about("NONE when they can't be, without a machine, or for others.");
    for (int what = 0; what < 4; what++) b.due("without a machine", b.x.rounds(0, 8, what), -1);
    machine(4);
    int[][] wrong = {{-1, 0}, {-1, 1}, {-5, 10}, {0, -1}, {5, -1}, {5, -5}, {0, 4097}, {4097, 0}, {4097, -1}, {MAX, MAX}, {1, MAX}, {MAX, 1}, {MIN, MIN}, {MIN, 0}, {0, MIN}, {MAX, MIN}};
    for (int[] w : wrong) {
      for (int what = 0; what < 4; what++) b.due("rounds(" + w[0] + ", " + w[1] + ", " + what + ")", b.x.rounds(w[0], w[1], what), -1);
    }
    for (int what : new int[] {-1, 4, MIN, MAX}) b.due("rounds(0, 8, " + what + ")", b.x.rounds(0, 8, what), -1);
  }

  private static void theLeastMantissa() {
    b.about("The least M (4 .. 8) by which a base and a length are EXACT; NONE without one, or when they can't be.");
    for (int m = 4; m <= 8; m++) {
      int half = 1 << (m - 1);
      b.due("from 1 on, " + half, b.x.exact(1, half), m);
      b.due("from 1 on, one more", b.x.exact(1, half + 1), m < 8 ? m + 1 : -1);
      b.due("from 0 on, of twos", b.x.exact(0, 2 * half), 4);
      b.due("from 2 on, of twos", b.x.exact(2, 2 * half), m);
      b.due("from 2 on, of twos, two more", b.x.exact(2, 2 * half + 2), m < 8 ? m + 1 : -1);
    }
    b.due("nothing", b.x.exact(0, 0), 4);
    b.due("nothing, at the end", b.x.exact(4096, 0), 4);
    b.due("all", b.x.exact(0, 4096), 4);
    b.due("all but the first 32", b.x.exact(32, 4064), 8);
    b.due("all but the first 16", b.x.exact(16, 4080), -1);
    b.due("all but the last", b.x.exact(0, 4095), -1);
    b.due("all but the first", b.x.exact(1, 4095), -1);
    int[][] wrong = {{-1, 1}, {1, -1}, {0, 4097}, {1, 4096}, {4096, 1}, {4097, 0}, {MAX, MAX}, {MIN, MIN}, {0, MIN}, {MAX, 1}, {1, MAX}};
    for (int[] w : wrong) b.due("exact(" + w[0] + ", " + w[1] + ")", b.x.exact(w[0], w[1]), -1);
    machine(8);
    b.due("whatever the machine's M is", b.x.exact(1, 8), 4);
  }

  // ---- terms III, promises 16 to 19

  private static void fitting() {
    b.about("A step of a POINTER FITS, if its bounds as DECODED from where it would be then are the same");
    machine(4);
    point(16, 8);
    int[] steps = {-4095, -4085, -4084, -17, -16, -5, -4, -1, 0, 1, 11, 12, 16, 4091, 4092, 4095};
    int[] fit = {1, 1, 0, 0, 0, 0, 1, 1, 1, 1, 1, 0, 0, 0, 1, 1};
    for (int i = 0; i < steps.length; i++) b.due("fits(0, " + steps[i] + ")", b.x.fits(0, steps[i]), fit[i]);
    b.due("it stays where it is", b.x.pointer(0, 1), 16);
    b.x.move(0, 5);
    b.due("from where it is, the last", b.x.fits(0, 6), 1);
    b.due("from where it is, one more", b.x.fits(0, 7), 0);
    b.due("from where it is, the first", b.x.fits(0, -9), 1);
    b.due("from where it is, one less", b.x.fits(0, -10), 0);
    point(0, 8);
    b.due("around, the first", b.x.fits(0, -4), 1);
    b.due("around, one less", b.x.fits(0, -5), 0);
    b.due("around, the first, on", b.x.fits(0, 4092), 1);
    b.due("around, one less, on", b.x.fits(0, 4091), 0);
  }

  private static void fittingWhateverItIs() {
    b.about("(whether it is VALID or sealed or not)");
    machine(4);
    b.due("one that never was", b.x.fits(1, 11), 1);
    b.due("one that never was", b.x.fits(1, 12), 0);
    b.x.copy(15, 2);
    b.x.move(2, 1);
    point(16, 8);
    b.x.seal(0, 2);
    b.due("sealed", b.x.fits(0, 11), 1);
    b.due("sealed", b.x.fits(0, 12), 0);
    b.due("sealed, quick", b.x.quick(0, 10), 1);
    b.due("sealed, not quick", b.x.quick(0, 11), 0);
    point(16, 8);
    b.x.move(0, 14);
    b.due("not valid, by the bounds that it has now", b.x.fits(0, -2), 1);
    b.due("not valid, by the bounds that it has now", b.x.fits(0, -3), 0);
  }

  private static void fittingRefused() {
    b.about("Whether a step (-4095 .. 4095) of a POINTER FITS; NONE when the step can't be, there is none such, or without a machine.");
    b.due("without a machine", b.x.fits(15, 0), -1);
    machine(4);
    for (int step : new int[] {-4095, 4095}) b.due("fits(15, " + step + ")", b.x.fits(15, step), 1);
    for (int step : new int[] {-4096, 4096, MIN, MAX}) b.due("fits(15, " + step + ")", b.x.fits(15, step), -1);
    for (int p : new int[] {-1, 16, MIN, MAX}) b.due("fits(" + p + ", 0)", b.x.fits(p, 0), -1);
  }

  /** Bounds 16 .. 24 by M 4: the window is 12 .. 27, so D is 12 at 16, 0 at 12 and 1 at 27. */
  private static void quick() {
    b.about("it is quick, if I is 0 and J is below D less 1, or I is -1, J is not below D, and D is not 0.");
    machine(4);
    point(16, 8);
    quickSteps(16, -4, 10);
    b.x.move(0, -3);
    quickSteps(13, -1, 13);
    b.x.move(0, -1);
    for (int step = -40; step <= 40; step++) b.due("at the edge, D 0, quick(0, " + step + ")", b.x.quick(0, step), 0);
    b.x.move(0, 13);
    quickSteps(25, -13, 1);
    b.x.move(0, 1);
    quickSteps(26, -14, 0);
    b.x.move(0, 1);
    quickSteps(27, -15, -1);
    for (int step : new int[] {-4095, -32, -17, -16, 16, 32, 4095}) b.due("quick(0, " + step + ")", b.x.quick(0, step), 0);
  }

  private static void quickSteps(int at, int first, int last) {
    b.due("the address", b.x.pointer(0, 1), at);
    for (int step = -40; step <= 40; step++) b.due("at " + at + ", quick(0, " + step + ")", b.x.quick(0, step), step >= first && step <= last ? 1 : 0);
  }

  /** Bounds 16 .. 26 by E 1: the window is 8 .. 39, and D counts twos from where the address is rounded to. */
  private static void quickByTwos() {
    b.about("I is the step divided by 2 to the (E and M), J the step divided by 2 to the E, modulo W, D is EDGE less MID, modulo W;");
    machine(4);
    point(16, 10);
    b.due("E", b.x.pointer(0, 4), 1);
    quickSteps(16, -8, 21);
    b.x.move(0, 1);
    quickSteps(17, -8, 21);
    b.x.move(0, 20);
    quickSteps(37, -28, 1);
    b.x.move(0, 1);
    quickSteps(38, -30, -1);
    b.x.move(0, -30);
    for (int step = -40; step <= 40; step++) b.due("D 0, quick(0, " + step + ")", b.x.quick(0, step), 0);
    machine(8);
    b.due("the one of all: D is 192", b.x.quick(15, 4095), 1);
    b.due("the one of all, back", b.x.quick(15, -2048), 1);
    b.due("the one of all, further back", b.x.quick(15, -2049), 0);
    b.x.move(15, 2080);
    b.due("the one of all, D is 127", b.x.quick(15, 126 * 32 - 1), 1);
    b.due("the one of all, D less 1", b.x.quick(15, 126 * 32), 0);
    b.due("the one of all, back to it", b.x.quick(15, -4095), 1);
  }

  /** By E 1 a step of -1 is -1 of two, not 0, and one of 1 is none. */
  private static void dividedDownwards() {
    b.about("(Divided: the greatest whole number not above.)");
    machine(4);
    point(16, 10);
    b.x.move(0, -8);
    b.due("E", b.x.pointer(0, 4), 1);
    b.x.move(0, 2);
    // D is 15 at 10: -1 and -2 are J 15, -3 is J 14.
    int[] steps = {-33, -32, -3, -2, -1, 0, 1, 27, 28, 29};
    int[] quick = {0, 0, 0, 1, 1, 1, 1, 1, 0, 0};
    for (int i = 0; i < steps.length; i++) b.due("quick(0, " + steps[i] + ")", b.x.quick(0, steps[i]), quick[i]);
    b.due("from 9 on it is at 8", b.x.move(0, -1) && b.x.pointer(0, 2) == 16, true);
    b.due("D is 0 there", b.x.quick(0, 0), 0);
    b.due("two back, at 7, it is none of the window", b.x.fits(0, -2) == 0 && b.x.fits(0, -1) == 1, true);
  }

  private static void quickRefused() {
    b.about("Whether it is quick, likewise.");
    b.due("without a machine", b.x.quick(15, 0), -1);
    machine(4);
    b.due("quick(15, -4095)", b.x.quick(15, -4095), 0);
    b.due("quick(15, 4095)", b.x.quick(15, 4095), 1);
    for (int step : new int[] {-4096, 4096, MIN, MAX}) b.due("quick(15, " + step + ")", b.x.quick(15, step), -1);
    for (int p : new int[] {-1, 16, MIN, MAX}) b.due("quick(" + p + ", 0)", b.x.quick(p, 0), -1);
  }

  private static void windows() {
    b.about("Of a POINTER: from how many addresses its bounds are as now (what 0), how many steps -64 .. 63 FIT and are not quick (1)."
        + " NONE when there is none such, without a machine, or for others.");
    for (int what = 0; what < 2; what++) b.due("without a machine", b.x.window(15, what), -1);
    for (int m = 4; m <= 8; m++) {
      machine(m);
      for (int e = 0; e <= 13 - m; e++) {
        point(0, (1 << (m - 1)) << e);
        b.due("window(0, 0) by M " + m + ", E " + e, b.x.window(0, 0), Math.min(4096, 1 << (m + e)));
      }
    }
    machine(4);
    point(16, 8);
    b.due("just 11 on", b.x.window(0, 1), 1);
    b.x.move(0, -4);
    b.due("at the edge, none is quick", b.x.window(0, 1), 16);
    machine(8);
    point(0, 128);
    b.x.move(0, -64);
    b.due("at the edge, 0 .. 63", b.x.window(0, 1), 64);
    b.x.move(0, 1);
    b.due("one on, none but quick ones", b.x.window(0, 1), 0);
    b.x.move(0, 63 + 128 - 1);
    b.due("the last of the window, 64 on, is not looked at", b.x.window(0, 1), 0);
    b.x.move(0, 1);
    b.due("63 on it is", b.x.window(0, 1), 1);
    for (int p : new int[] {-1, 16, MIN, MAX}) b.due("window(" + p + ", 0)", b.x.window(p, 0), -1);
    for (int what : new int[] {-1, 2, MIN, MAX}) b.due("window(0, " + what + ")", b.x.window(0, what), -1);
  }

  private static void reaching() {
    b.about("The POINTERS that are VALID, not sealed, in whose bounds an address (0 .. 4095) is, as bits;");
    machine(4);
    int all = 1 << 15;
    point(16, 8);
    b.due("one below", b.x.reachers(15), all);
    b.due("the first", b.x.reachers(16), all + 1);
    b.due("the last", b.x.reachers(23), all + 1);
    b.due("one above", b.x.reachers(24), all);
    b.x.narrow(0, 7, 0);
    b.due("nothing reaches nothing", b.x.reachers(16), all + 1);
    b.x.move(0, 9);
    b.due("wherever it is", b.x.reachers(16), all + 1);
    b.x.copy(0, 14);
    b.due("two of them", b.x.reachers(16), all + (1 << 14) + 1);
    b.x.move(0, 3);
    b.due("not valid", b.x.reachers(16), all + (1 << 14));
    b.due("not valid, where its bounds are now", b.x.reachers(32), all);
    b.x.copy(15, 5);
    b.x.move(5, 1);
    b.x.seal(14, 5);
    b.due("sealed", b.x.reachers(16), all + 32);
    b.x.seal(15, 5);
    b.due("the one of all sealed", b.x.reachers(4095), 32);
    b.x.seal(5, 5);
    b.due("none", b.x.reachers(0), 0);
  }

  private static void reachingNone() {
    b.about("as bits; NONE when there is none such, or without a machine.");
    b.due("without a machine", b.x.reachers(0), -1);
    machine(4);
    b.due("the first", b.x.reachers(0), 1 << 15);
    b.due("the last", b.x.reachers(4095), 1 << 15);
    for (int address : new int[] {-1, 4096, MIN, MAX}) b.due("reachers(" + address + ")", b.x.reachers(address), -1);
  }
}
