import java.util.ArrayList;
import java.util.List;

/** Promises 23 to 25: see, places, tells. */
public final class SightTest {
  private static final Bench b = new Bench("SightTest");

  public static void main(String[] args) {
    seeing();
    places();
    telling();
    allByAll();
    b.ends();
  }

  private static void seeing() {
    b.fresh();
    b.due("without a machine", b.see(64, 1), -1);
    b.due("the tape is gone", b.x.end(1), false);
    b.machine("memory 64 mantissa 4;");
    b.due("see", b.see(0, 0, 127, 1), 2);
    b.due("has(8)", b.x.has(8), 2);
    b.due("nothing", b.see(), -1);
    b.due("one byte", b.see(64), -1);
    b.due("three bytes", b.see(64, 1, 64), -1);
    b.due("a step too far", b.see(128, 1), -1);
    b.due("neither 0 nor 1", b.see(64, 2), -1);
    b.due("neither 0 nor 1", b.see(64, 1, 64, 255), -1);
    b.due("17 rows", b.see(new int[34]), -1);
    b.due("the tape is gone", b.x.end(1), false);
    b.due("has(8) stays", b.x.has(8), 2);
    b.due("status(1)", b.x.status(1), 8);
    b.due("16 rows", b.see(new int[32]), 16);
    b.due("in place of those ahead", b.see(64, 1), 1);
    b.due("has(8)", b.x.has(8), 1);
    b.due("no act", b.x.has(9), 0);
  }

  /** E 0, B 0: pointer 0 has its window from 12 to 27. */
  private static void places() {
    b.machine("memory 64 mantissa 4;");
    b.x.alloc(0, 8);
    b.due("all of the window", b.x.places(0, -1), 16);
    b.due("the first", b.x.places(0, 0), 12);
    b.due("the last", b.x.places(0, 15), 27);
    b.due("behind it", b.x.places(0, 16), -1);
    b.due("k -2", b.x.places(0, -2), -1);
    b.due("places(16, -1)", b.x.places(16, -1), -1);
    b.due("places(-1, -1)", b.x.places(-1, -1), -1);
    // Five on it fits, nine on not: 19 .. 22.
    b.see(64 + 5, 1, 64 + 9, 0);
    b.due("places", b.x.places(0, -1), 4);
    for (int k = 0; k < 4; k++) b.due("place " + k, b.x.places(0, k), 19 + k);
    b.due("behind them", b.x.places(0, 4), -1);
    b.x.move(0, 3);
    b.due("wherever it is in its window", b.x.places(0, 0), 19);
    // The window of a pointer that never was: 4092 .. 4095 and 0 .. 11, rising.
    b.see(64, 1);
    b.due("around", b.x.places(1, -1), 16);
    b.due("around", b.x.places(1, 0), 0);
    b.due("around", b.x.places(1, 11), 11);
    b.due("around", b.x.places(1, 12), 4092);
    b.see(64, 0);
    b.due("nowhere", b.x.places(0, -1), 0);
    b.due("nowhere", b.x.places(0, 0), -1);
    b.see(64 - 64, 1);
    b.due("all addresses", b.x.places(15, -1), 4096);
    b.due("the last of all", b.x.places(15, 4095), 4095);
    b.due("behind the last of all", b.x.places(15, 4096), -1);
  }

  private static void telling() {
    b.machine("memory 64 mantissa 4;");
    b.x.alloc(0, 8);
    // Eight back halves the sixteen places, and so does eight on, but later.
    b.due("tells(0, 0)", b.x.tells(0, 0), 64 - 8);
    b.due("tells(0, 1)", b.x.tells(0, 1), 8);
    // 19 .. 22 are left: 9 back, 10 .. 13, tells the upper two from the lower two.
    b.see(64 + 5, 1, 64 + 9, 0);
    b.due("tells(0, 0)", b.x.tells(0, 0), 64 - 9);
    b.due("tells(0, 1)", b.x.tells(0, 1), 2);
    // One place is left whatever the step is: the first one.
    b.see(64 + 15, 1);
    b.due("places", b.x.places(0, -1), 1);
    b.due("tells(0, 0)", b.x.tells(0, 0), 0);
    b.due("tells(0, 1)", b.x.tells(0, 1), 1);
    b.due("a window of all", b.x.tells(15, 0), 0);
    b.due("a window of all", b.x.tells(15, 1), 4096);
    b.see(64, 0);
    b.due("without places", b.x.tells(0, 0), -1);
    b.due("without places", b.x.tells(0, 1), -1);
    b.see(64, 1);
    b.due("tells(0, 2)", b.x.tells(0, 2), -1);
    b.due("tells(0, -1)", b.x.tells(0, -1), -1);
    b.due("tells(16, 0)", b.x.tells(16, 0), -1);
    b.due("tells(-1, 0)", b.x.tells(-1, 0), -1);
  }

  /** By moving a pointer to each address and asking what fits from there. */
  private static void allByAll() {
    for (int m = 4; m <= 7; m++) {
      b.machine("memory 1024 mantissa " + m + ";");
      for (int n : new int[] {5, 40, 90}) {
        b.x.alloc(0, n);
        int[] rows = {64 + n % 50, 1, 64 - n % 40, n % 2, 64 + 60, 0};
        b.see(rows);
        int home = b.x.pointer(0, 1);
        int base = b.x.pointer(0, 2);
        List<Integer> places = new ArrayList<>();
        List<boolean[]> fitting = new ArrayList<>();
        for (int address = 0; address < 4096; address++) {
          b.x.move(0, address - b.x.pointer(0, 1));
          if (b.x.pointer(0, 2) != base) continue;
          boolean so = true;
          for (int i = 0; i < rows.length; i += 2) so &= b.x.fits(0, rows[i] - 64) == rows[i + 1];
          if (!so) continue;
          places.add(address);
          boolean[] fits = new boolean[128];
          for (int s = 0; s < 128; s++) fits[s] = b.x.fits(0, s - 64) == 1;
          fitting.add(fits);
        }
        b.x.move(0, home - b.x.pointer(0, 1));
        b.due("places", b.x.places(0, -1), places.size());
        for (int k = 0; k < places.size(); k += 7) b.due("place " + k, b.x.places(0, k), places.get(k));
        int best = -1;
        int least = Integer.MAX_VALUE;
        for (int s = 0; s < 128 && !places.isEmpty(); s++) {
          int yes = 0;
          for (boolean[] fits : fitting) yes += fits[s] ? 1 : 0;
          int most = Math.max(yes, places.size() - yes);
          if (most < least) {
            least = most;
            best = s;
          }
        }
        b.due("tells 0", b.x.tells(0, 0), best);
        b.due("tells 1", b.x.tells(0, 1), places.isEmpty() ? -1 : least);
      }
    }
  }
}
