import java.util.ArrayList;
import java.util.List;
import java.util.function.Consumer;
import java.util.function.Function;
import java.util.function.ToLongFunction;

/**
 * Two objects led alike but for one call. Each look at them is at two new objects, so that none has
 * more calls than the document promises answers for.
 */
final class Twins {
  private static final int NOT_COUNTED = -1;
  private static final List<Function<FatPointers, String>> LOOKS = List.of(
      Twins::counts, Twins::pointers, Twins::shelves, Twins::heap, Twins::bytes, Twins::kept, Twins::written, Twins::sight,
      Twins::steps, Twins::followed, Twins::seed, Twins::past, Twins::back);

  private final Bench b;
  private final Consumer<FatPointers> scene;

  Twins(Bench b, Consumer<FatPointers> scene) {
    this.b = b;
    this.scene = scene;
  }

  /** The call is refused: its answer is that, it is counted there, and all else stays. */
  void refused(String what, int status, long answer, ToLongFunction<FatPointers> call) {
    compare(what, status, answer, call, x -> { });
  }

  /** The call answers that, is counted nowhere, and all stays. */
  void onlyTold(String what, long answer, ToLongFunction<FatPointers> call) {
    compare(what, NOT_COUNTED, answer, call, x -> { });
  }

  /** As refused, but for what the other one has to do to be like it: the tape goes, a fault is told. */
  void compare(String what, int status, long answer, ToLongFunction<FatPointers> call, Consumer<FatPointers> other) {
    for (Function<FatPointers, String> look : LOOKS) {
      FatPointers one = new FatPointers();
      FatPointers two = new FatPointers();
      scene.accept(one);
      scene.accept(two);
      int[] before = statuses(one);
      b.due(what, call.applyAsLong(one), answer);
      other.accept(two);
      int[] after = statuses(one);
      for (int i = 0; i < 8; i++) b.due(what + ", status(" + i + ")", after[i], before[i] + (i == status ? 1 : 0));
      String got = look.apply(one);
      String want = look.apply(two);
      b.due(what + ", all stays" + (got.equals(want) ? "" : ": " + got + " is not " + want), got.equals(want), true);
    }
  }

  private static int[] statuses(FatPointers x) {
    int[] counts = new int[8];
    for (int i = 0; i < 8; i++) counts[i] = x.status(i);
    return counts;
  }

  private static String told(List<Long> values) {
    return values.toString();
  }

  private static String counts(FatPointers x) {
    List<Long> s = new ArrayList<>();
    for (int i = 0; i <= 10; i++) s.add((long) x.has(i));
    for (int i = 0; i < 2; i++) s.add((long) x.fault(i));
    for (int shelf = 0; shelf < 4; shelf++) for (int k = 0; k < 6; k++) s.add((long) x.letter(shelf, k));
    s.add((long) x.feed(0, 0, 0, 0, 0));
    return told(s);
  }

  private static String pointers(FatPointers x) {
    List<Long> s = new ArrayList<>();
    for (int p = 0; p < 16; p++) for (int what = 0; what < 9; what++) s.add((long) x.pointer(p, what));
    return told(s);
  }

  private static String shelves(FatPointers x) {
    List<Long> s = new ArrayList<>();
    for (int i = 0; i < 16; i++) for (int what = 0; what < 9; what++) s.add((long) x.shelf(i / 4, i % 4, what));
    return told(s);
  }

  private static String heap(FatPointers x) {
    List<Long> s = new ArrayList<>();
    for (int k = 0; k < 33; k++) for (int what = 0; what < 3; what++) s.add((long) x.object(k, what));
    for (int k = 0; k < 12; k++) for (int what = 0; what < 2; what++) s.add((long) x.hole(k, what));
    for (int n = 1; n < 20; n++) s.add((long) x.room(n));
    s.add((long) x.odds());
    for (int what = 0; what < 2; what++) s.add((long) x.share(what));
    return told(s);
  }

  private static String bytes(FatPointers x) {
    List<Long> s = new ArrayList<>();
    for (int a = 0; a < 66; a++) s.add((long) x.octetAt(a));
    return told(s);
  }

  private static String kept(FatPointers x) {
    List<Long> s = new ArrayList<>();
    for (int k = 0; k < 41; k++) for (int what = 0; what < 3; what++) s.add((long) x.kept(k, what));
    return told(s);
  }

  private static String written(FatPointers x) {
    List<Long> s = new ArrayList<>();
    for (int k = 0; k < 300; k++) s.add((long) x.octet(k));
    return told(s);
  }

  private static String sight(FatPointers x) {
    List<Long> s = new ArrayList<>();
    for (int p = 0; p < 16; p++) {
      for (int k = -1; k < 3; k++) s.add((long) x.places(p, k));
      for (int what = 0; what < 2; what++) s.add((long) x.tells(p, what));
    }
    return told(s);
  }

  private static String steps(FatPointers x) {
    List<Long> s = new ArrayList<>();
    for (int p = 0; p < 16; p++) {
      for (int step = -8; step <= 12; step += 4) s.add((long) x.fits(p, step));
      for (int step = -8; step <= 12; step += 4) s.add((long) x.quick(p, step));
      for (int what = 0; what < 2; what++) s.add((long) x.window(p, what));
    }
    for (int a = 0; a < 64; a += 3) s.add((long) x.reachers(a));
    for (int what = 0; what < 4; what++) s.add((long) x.rounds(7, 9, what));
    return told(s);
  }

  /** By the traps that there are. */
  private static String followed(FatPointers x) {
    List<Long> s = new ArrayList<>();
    for (int p = 0; p < 16; p++) {
      s.add((long) x.load(p));
      s.add(x.store(p, 7) ? 1L : 0L);
      s.add(x.move(p, 1) ? 1L : 0L);
      s.add((long) x.load(p));
    }
    return told(s);
  }

  private static String seed(FatPointers x) {
    List<Long> s = new ArrayList<>();
    for (int i = 0; i < 8; i++) s.add((long) x.chance(3));
    for (int p = 0; p < 16; p++) s.add((long) x.pointer(p, 2));
    return told(s);
  }

  private static String past(FatPointers x) {
    List<Long> s = new ArrayList<>();
    for (int i = 0; i < 22; i++) {
      s.add(x.undo() ? 1L : 0L);
      for (int what = 2; what < 10; what++) s.add((long) x.has(what));
      for (int p = 0; p < 3; p++) s.add((long) x.pointer(p, 1));
    }
    return told(s);
  }

  /** All that there was ahead of the acts that can be undone. */
  private static String back(FatPointers x) {
    for (int i = 0; i < 20; i++) x.undo();
    return pointers(x) + shelves(x);
  }
}
