import java.lang.reflect.Method;
import java.util.ArrayList;
import java.util.List;
import java.util.Random;

/** Random runs of some 500 calls beside those that feed the tape, each held against the model. */
public final class ModelTest {
  private final Random random;
  private final Texts texts;
  private final FatPointers real = new FatPointers();
  private final Model model = new Model();
  private final List<String> told = new ArrayList<>();
  private int calls = 0;
  private int wrong = 0;

  private ModelTest(long seed) {
    random = new Random(seed);
    texts = new Texts(random);
  }

  public static void main(String[] args) throws Exception {
    int runs = args.length > 0 ? Integer.parseInt(args[0]) : 600;
    long first = args.length > 1 ? Long.parseLong(args[1]) : 1;
    for (long seed = first; seed < first + runs; seed++) {
      ModelTest run = new ModelTest(seed);
      run.go();
      if (run.wrong > 0) {
        for (String line : run.told) System.out.println("  " + line);
        System.out.println("run of seed " + seed + " is not as the model");
        System.exit(1);
      }
    }
    System.out.println(runs + " runs are as the model");
  }

  private long call(String name, int... values) throws Exception {
    Class<?>[] types = new Class<?>[values.length];
    Object[] arguments = new Object[values.length];
    StringBuilder text = new StringBuilder(name).append('(');
    for (int i = 0; i < values.length; i++) {
      types[i] = int.class;
      arguments[i] = values[i];
      text.append(i > 0 ? ", " : "").append(values[i]);
    }
    long got = number(FatPointers.class.getMethod(name, types).invoke(real, arguments));
    Method due = Model.class.getMethod(name, types);
    long want = number(due.invoke(model, arguments));
    calls += name.equals("feed") ? 0 : 1;
    told.add(text + ") = " + got);
    if (got != want) {
      wrong++;
      told.add("   due is " + want);
    }
    return got;
  }

  private static long number(Object answer) {
    return answer instanceof Boolean ? ((Boolean) answer ? 1 : 0) : ((Number) answer).longValue();
  }

  private void tape(String text) throws Exception {
    call("end", 0);
    for (int i = 0; i < text.length(); i += 20) {
      int[] n = new int[5];
      for (int j = 0; j < 20; j++) {
        int b = i + j < text.length() ? text.charAt(i + j) : 32;
        n[j / 4] = n[j / 4] << 8 | b;
      }
      call("feed", n);
    }
    call("end", text.length());
    told.add("   tape: " + text.replace("\n", "\\n"));
  }

  private int upTo(int n) {
    return random.nextInt(n);
  }

  private int wild(int least, int most) {
    switch (upTo(14)) {
      case 0: return least - 1;
      case 1: return most + 1;
      case 2: return upTo(2) == 0 ? Integer.MIN_VALUE : Integer.MAX_VALUE;
      case 3: return least;
      case 4: return most;
      default: return least + upTo(most - least + 1);
    }
  }

  private int pointer() {
    if (upTo(12) == 0) return wild(0, 15);
    int any = upTo(16);
    return upTo(3) > 0 ? like(any, upTo(4) > 0 ? 0 : upTo(8)) : any;
  }

  /** From a pointer on, the next that is valid and of that kind, so that more calls are not refused. */
  private int like(int from, int kind) {
    for (int i = 0; i < 16; i++) {
      int p = (from + i) % 16;
      if (model.pointer(p, 0) == 1 && (kind == 0) == (model.pointer(p, 8) == 0)) return p;
    }
    return from;
  }

  private int step() {
    switch (upTo(4)) {
      case 0: return wild(-4095, 4095);
      case 1: return wild(-64, 64);
      default: return wild(-9, 9);
    }
  }

  private void go() throws Exception {
    if (upTo(4) == 0) for (int i = upTo(20); i > 0; i--) any();
    for (int i = 0; i < 9 && real.has(0) == 0; i++) machine();
    while (calls < 430 && wrong == 0) {
      any();
      if (upTo(120) == 0) machine();
      if (upTo(50) == 0) lookAround();
    }
  }

  private void machine() throws Exception {
    String text = texts.machine();
    if (upTo(3) == 0) text = texts.spoilt(text);
    if (text.length() > 300 && upTo(3) > 0) text = "memory 64 mantissa 4;";
    tape(text);
    if (call("machine") > 0) texts.kinds = texts.kindsOf(text);
    call("fault", 0);
    call("fault", 1);
  }

  private void any() throws Exception {
    switch (upTo(8)) {
      case 0: ask(); break;
      case 1: case 2: tell(); break;
      case 3: bounds(); break;
      case 4: sight(); break;
      default: act();
    }
  }

  private void ask() throws Exception {
    String text = texts.question();
    if (upTo(5) == 0) text = texts.spoilt(text);
    if (text.length() > 300) return;
    tape(text);
    call("ask");
    call("fault", 0);
    call("fault", 1);
  }

  private void tell() throws Exception {
    switch (upTo(12)) {
      case 0: call("has", wild(0, 10)); break;
      case 1: call("letter", wild(0, 3), wild(0, 5)); break;
      case 2: call("shelf", wild(0, 3), wild(0, 3), wild(0, 8)); break;
      case 3: call("object", wild(0, 5), wild(0, 2)); break;
      case 4: call("hole", wild(0, 3), wild(0, 1)); break;
      case 5: call("octetAt", wild(0, 100)); break;
      case 6: call("kept", wild(0, 39), wild(0, 2)); break;
      case 7: call("status", wild(0, 7)); break;
      case 8: call("fault", wild(0, 1)); break;
      case 9: call("octet", wild(0, 300)); break;
      default: call("pointer", pointer(), wild(0, 8));
    }
  }

  private void bounds() throws Exception {
    switch (upTo(9)) {
      case 0: {
        int base = wild(0, 4096);
        call("rounds", base, upTo(3) == 0 ? wild(0, 4096 - Math.max(0, Math.min(4096, base))) : wild(0, 300), wild(0, 3));
        break;
      }
      case 1: call("exact", wild(0, 4096) / (1 + upTo(2)), wild(0, 4096) / (1 + upTo(64))); break;
      case 2: call("fits", pointer(), step()); break;
      case 3: call("quick", pointer(), step()); break;
      case 4: call("window", pointer(), wild(0, 1)); break;
      case 5: call("reachers", upTo(2) == 0 ? wild(0, 4095) : wild(0, 130)); break;
      case 6: call("room", wild(1, 1024) / (1 + upTo(32))); break;
      case 7: call("odds"); break;
      default: call("share", wild(0, 1));
    }
  }

  private void sight() throws Exception {
    switch (upTo(5)) {
      case 0: {
        StringBuilder rows = new StringBuilder();
        for (int i = upTo(upTo(3) == 0 ? 18 : 4); i > 0; i--) {
          rows.append((char) (upTo(20) == 0 ? upTo(256) : upTo(128))).append((char) (upTo(15) == 0 ? upTo(256) : upTo(2)));
        }
        if (upTo(10) == 0) rows.append('\0');
        tape(rows.toString());
        call("see");
        break;
      }
      case 1: case 2: call("places", pointer(), upTo(2) == 0 ? -1 : wild(-1, 40)); break;
      default: call("tells", pointer(), wild(0, 1));
    }
  }

  private void act() throws Exception {
    switch (upTo(22)) {
      case 0: case 1: call("alloc", pointer(), upTo(3) == 0 ? wild(1, 1024) : wild(1, 40)); break;
      case 2: call("free", pointer()); break;
      case 3: call("copy", pointer(), pointer()); break;
      case 4: case 5: call("move", pointer(), step()); break;
      case 6: call("narrow", pointer(), pointer(), upTo(4) == 0 ? wild(0, 4096) : wild(0, 20)); break;
      case 7: call("limit", pointer(), upTo(3) == 0 ? wild(0, 7) : 7); break;
      case 8: case 9: shelves(); break;
      case 10: call("load", pointer()); break;
      case 11: case 12: call("store", pointer(), wild(0, 255)); break;
      case 13: call("shelve", pointer(), wild(0, 3)); break;
      case 14: call("take", wild(0, 3), wild(0, 3), pointer()); break;
      case 15: call("chance", wild(1, 40)); break;
      case 16: case 17: call("undo"); break;
      case 18: call("seed", wild(0, 1000)); break;
      case 19: image(); break;
      case 20: call("seal", pointer(), pointer()); break;
      default: call("unseal", pointer(), pointer());
    }
  }

  /** A key at hand, and then what a key is for. */
  private void shelves() throws Exception {
    int shelf = texts.kinds.isEmpty() ? 0 : upTo(texts.kinds.size());
    int kind = texts.kinds.isEmpty() || upTo(8) == 0 ? wild(1, 7) : texts.kinds.get(shelf);
    if (upTo(4) > 0 && model.pointer(15, 7) == 7) {
      call("copy", 15, 14);
      call("move", 14, Math.max(-99, Math.min(99, kind)) - model.pointer(14, 1));
    }
    for (int i = upTo(4); i > 0; i--) {
      int pointer = pointer();
      call("seal", pointer, 14);
      if (upTo(4) > 0) call("shelve", pointer, shelf);
    }
    for (int i = upTo(3); i > 0; i--) call("shelve", pointer(), upTo(4) == 0 ? wild(0, 3) : shelf);
    if (upTo(2) == 0) call("unseal", like(upTo(16), 1), 14);
    if (upTo(3) == 0) call("take", upTo(4) == 0 ? wild(0, 3) : shelf, upTo(2), pointer());
  }

  private void image() throws Exception {
    long length = call("image");
    for (int i = 0; i < 3 && length > 0; i++) call("octet", upTo((int) length));
    if (length < 1 || upTo(2) == 0) return;
    int[] bytes = new int[(int) length];
    for (int i = 0; i < length; i++) bytes[i] = real.octet(i);
    int changes = upTo(2) == 0 ? 0 : 1 + upTo(3);
    for (int i = 0; i < changes; i++) {
      int at = upTo(bytes.length);
      int[] choices = {bytes[at] + 1, bytes[at] - 1, 0, 1, 255, upTo(256), upTo(16)};
      bytes[at] = choices[upTo(choices.length)] & 255;
    }
    int c = 149;
    for (int i = 0; i < length - 1; i++) c = (3 * c + bytes[i]) % 251;
    bytes[(int) length - 1] = upTo(12) == 0 ? upTo(256) : c;
    StringBuilder text = new StringBuilder();
    for (int b : bytes) text.append((char) b);
    if (upTo(15) == 0) text.setLength(text.length() - 1);
    if (upTo(15) == 0) text.append('\0');
    tape(text.toString());
    call("on");
  }

  private void lookAround() throws Exception {
    for (int i = 0; i < 11; i++) call("has", i);
    for (int i = 0; i < 9; i++) call("pointer", upTo(16), i);
    for (int i = 0; i < 9; i++) call("shelf", upTo(4), upTo(4), i);
    for (int i = 0; i < 8; i++) call("status", i);
    for (int i = 0; i < 6; i++) call("kept", upTo(40), upTo(3));
    for (int i = 0; i < 6; i++) call("octetAt", 16 + upTo(48));
    for (int i = 0; i < 6; i++) call("object", upTo(6), upTo(3));
  }
}
