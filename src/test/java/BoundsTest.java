/** Promises 14 to 19: rounds, exact, fits, quick, window, reachers. */
public final class BoundsTest {
  private static final Bench b = new Bench("BoundsTest");

  public static void main(String[] args) {
    rounding();
    exactness();
    steps();
    edges();
    stepsByTheDocument();
    reaching();
    b.ends();
  }

  private static void rounded(int base, int length, int... want) {
    for (int i = 0; i < 4; i++) {
      b.due("rounds(" + base + ", " + length + ", " + i + ")", b.x.rounds(base, length, i), want[i]);
    }
  }

  private static void rounding() {
    b.machine("memory 64 mantissa 4;");
    rounded(0, 0, 0, 0, 0, 1);
    rounded(4096, 0, 0, 4096, 0, 1);
    rounded(7, 8, 0, 7, 8, 1);
    rounded(7, 9, 1, 6, 10, 0);
    rounded(6, 16, 1, 6, 16, 1);
    // By E 1 from 6 to 24 there would be nine steps of two.
    rounded(7, 16, 2, 4, 20, 0);
    rounded(0, 4096, 9, 0, 4096, 1);
    rounded(1, 4095, 9, 0, 4096, 0);
    rounded(0, 2049, 9, 0, 2560, 0);
    rounded(4095, 1, 0, 4095, 1, 1);
    b.due("rounds(-1, 5, 0)", b.x.rounds(-1, 5, 0), -1);
    b.due("rounds(5, -1, 0)", b.x.rounds(5, -1, 0), -1);
    b.due("rounds(4095, 2, 0)", b.x.rounds(4095, 2, 0), -1);
    b.due("rounds, too great", b.x.rounds(Integer.MAX_VALUE, Integer.MAX_VALUE, 0), -1);
    b.due("rounds, too great", b.x.rounds(1, Integer.MAX_VALUE, 0), -1);
    b.due("rounds(0, 0, 4)", b.x.rounds(0, 0, 4), -1);
    b.due("rounds(0, 0, -1)", b.x.rounds(0, 0, -1), -1);
    b.machine("memory 64 mantissa 8;");
    rounded(1, 128, 0, 1, 128, 1);
    rounded(1, 129, 1, 0, 130, 0);
    rounded(0, 4096, 5, 0, 4096, 1);
  }

  private static void exactness() {
    b.fresh();
    b.due("exact(0, 0)", b.x.exact(0, 0), 4);
    b.due("exact(1, 8)", b.x.exact(1, 8), 4);
    b.due("exact(1, 9)", b.x.exact(1, 9), 5);
    b.due("exact(1, 16)", b.x.exact(1, 16), 5);
    b.due("exact(1, 17)", b.x.exact(1, 17), 6);
    b.due("exact(1, 33)", b.x.exact(1, 33), 7);
    b.due("exact(1, 65)", b.x.exact(1, 65), 8);
    b.due("exact(1, 128)", b.x.exact(1, 128), 8);
    b.due("exact(1, 129)", b.x.exact(1, 129), -1);
    b.due("exact(0, 4096)", b.x.exact(0, 4096), 4);
    b.due("exact(32, 4064)", b.x.exact(32, 4064), 8);
    b.due("exact(16, 4080)", b.x.exact(16, 4080), -1);
    b.due("exact(-1, 1)", b.x.exact(-1, 1), -1);
    b.due("exact(1, -1)", b.x.exact(1, -1), -1);
    b.due("exact(4096, 1)", b.x.exact(4096, 1), -1);
    b.due("exact(max, max)", b.x.exact(Integer.MAX_VALUE, Integer.MAX_VALUE), -1);
  }

  /** E 1, B 8, T 13: the window is from 8 to 39. */
  private static void steps() {
    b.machine("memory 256 mantissa 4;");
    b.x.alloc(0, 10);
    int[] at = {-4095, -4073, -4072, -9, -8, -1, 0, 1, 21, 22, 23, 24, 4087, 4088, 4095};
    int[] fit = {1, 1, 0, 0, 1, 1, 1, 1, 1, 1, 1, 0, 0, 1, 1};
    int[] quick = {0, 0, 0, 0, 1, 1, 1, 1, 1, 0, 0, 0, 0, 0, 0};
    for (int i = 0; i < at.length; i++) {
      b.due("fits(0, " + at[i] + ")", b.x.fits(0, at[i]), fit[i]);
      b.due("quick(0, " + at[i] + ")", b.x.quick(0, at[i]), quick[i]);
    }
    b.due("window(0, 0)", b.x.window(0, 0), 32);
    b.due("window(0, 1)", b.x.window(0, 1), 2);
    b.due("window(15, 0)", b.x.window(15, 0), 4096);
    b.due("window(1, 0)", b.x.window(1, 0), 16);
    for (int bad : new int[] {-1, 16}) {
      b.due("fits(" + bad + ", 0)", b.x.fits(bad, 0), -1);
      b.due("quick(" + bad + ", 0)", b.x.quick(bad, 0), -1);
      b.due("window(" + bad + ", 0)", b.x.window(bad, 0), -1);
    }
    for (int bad : new int[] {-4096, 4096, Integer.MIN_VALUE, Integer.MAX_VALUE}) {
      b.due("fits(0, " + bad + ")", b.x.fits(0, bad), -1);
      b.due("quick(0, " + bad + ")", b.x.quick(0, bad), -1);
    }
    b.due("window(0, 2)", b.x.window(0, 2), -1);
    b.due("window(0, -1)", b.x.window(0, -1), -1);
    // Whether it is valid or sealed or not.
    b.x.copy(15, 1);
    b.x.move(1, 3);
    b.x.seal(0, 1);
    b.due("fits of a sealed one", b.x.fits(0, 23), 1);
    b.due("quick of a sealed one", b.x.quick(0, 21), 1);
    b.due("fits of one not valid", b.x.fits(2, 12), 0);
    b.due("fits of one not valid", b.x.fits(2, 11), 1);
  }

  /** At the first and the last address of a window, and one ahead of a step's end. */
  private static void edges() {
    b.machine("memory 256 mantissa 4;");
    b.x.alloc(0, 10);
    b.x.move(0, -8);
    b.due("at the edge, -1", b.x.quick(0, -1), 0);
    b.due("at the edge, 0", b.x.quick(0, 0), 0);
    b.due("at the edge, 0", b.x.fits(0, 0), 1);
    b.due("at the edge, 31", b.x.fits(0, 31), 1);
    b.due("at the edge, 31", b.x.quick(0, 31), 0);
    b.due("at the edge", b.x.window(0, 1), 32);
    b.x.move(0, 31);
    b.due("at the end, -1", b.x.quick(0, -1), 1);
    b.due("at the end, -31", b.x.quick(0, -31), 0);
    b.due("at the end, -31", b.x.fits(0, -31), 1);
    b.due("at the end, 0", b.x.quick(0, 0), 0);
    b.machine("memory 256 mantissa 8;");
    b.x.alloc(0, 128);
    b.x.move(0, 127);
    b.due("64 fits", b.x.fits(0, 64), 1);
    b.due("64 is not quick", b.x.quick(0, 64), 0);
    b.due("64 is not counted", b.x.window(0, 1), 0);
    b.x.move(0, 1);
    b.due("63 is counted", b.x.window(0, 1), 1);
  }

  /** Whatever fits by the quick test fits by all decoded. */
  private static void stepsByTheDocument() {
    for (int m = 4; m <= 8; m++) {
      b.machine("memory 1024 mantissa " + m + ";");
      for (int n : new int[] {1, 7, 30, 200, 700}) {
        b.x.alloc(0, n);
        for (int move : new int[] {0, 3, -2, 5}) {
          b.x.move(0, move);
          int slow = 0;
          for (int step = -4095; step <= 4095; step++) {
            boolean fits = b.x.fits(0, step) == 1;
            boolean quick = b.x.quick(0, step) == 1;
            if (quick && !fits) b.due("quick, but not fitting: " + step, 1, 0);
            if (step >= -64 && step < 64 && fits && !quick) slow++;
          }
          b.due("window(0, 1)", b.x.window(0, 1), slow);
        }
        b.x.free(0);
      }
    }
  }

  private static void reaching() {
    b.machine("memory 256 mantissa 4;");
    b.x.alloc(0, 8);
    b.x.alloc(1, 8);
    b.x.copy(0, 2);
    b.x.move(2, 9);
    int all = 1 << 15;
    b.due("reachers(0)", b.x.reachers(0), all);
    b.due("reachers(15)", b.x.reachers(15), all);
    b.due("reachers(16)", b.x.reachers(16), all + 1 + 4);
    b.due("reachers(23)", b.x.reachers(23), all + 1 + 4);
    b.due("reachers(24)", b.x.reachers(24), all + 2);
    b.due("reachers(31)", b.x.reachers(31), all + 2);
    b.due("reachers(32)", b.x.reachers(32), all);
    b.due("reachers(4095)", b.x.reachers(4095), all);
    b.due("reachers(4096)", b.x.reachers(4096), -1);
    b.due("reachers(-1)", b.x.reachers(-1), -1);
    b.x.copy(15, 5);
    b.x.move(5, 1);
    b.x.seal(0, 5);
    b.due("reachers(16), one sealed", b.x.reachers(16), all + 4 + 32);
    b.x.move(2, 100);
    b.due("reachers(16), one moved out", b.x.reachers(16), all + 32);
  }
}
