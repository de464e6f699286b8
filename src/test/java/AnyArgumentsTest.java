import java.lang.reflect.InvocationTargetException;
import java.lang.reflect.Method;
import java.lang.reflect.Modifier;
import java.util.function.Consumer;

/** No call throws, whatever its arguments are, without a machine, with one, and with all full. */
public final class AnyArgumentsTest {
  private static final int[] VALUES = {Integer.MIN_VALUE, -4096, -1, 0, 3, 15, 16, 40, 1024, 4095, 4096, Integer.MAX_VALUE};
  private static final Bench b = new Bench("AnyArgumentsTest");

  public static void main(String[] args) throws IllegalAccessException {
    everyCall("without a machine", x -> { });
    everyCall("with a machine", x -> machine(x, "memory 64 mantissa 4;"));
    everyCall("with all full", AnyArgumentsTest::full);
    everyTape();
    b.ends();
  }

  private static void machine(FatPointers x, String text) {
    Lead.tape(x, text);
    x.machine();
  }

  private static void full(FatPointers x) {
    machine(x, "memory 1024 mantissa 8;shelf a kind 3;shelf b kind 3;shelf c kind 3;shelf d kind 3;traps at/0>at;picks need/(start-16);pads need*need*need;");
    for (int i = 0; i < 45; i++) x.alloc(i % 15, 1);
    x.move(15, 3);
    x.seal(3, 15);
    for (int i = 0; i < 16; i++) x.shelve(3, i / 4);
    x.image();
    Lead.tape(x, "\0".repeat(32));
    x.see();
    Lead.tape(x, " ".repeat(1600));
  }

  private static void everyCall(String where, Consumer<FatPointers> scene) throws IllegalAccessException {
    for (Method m : FatPointers.class.getDeclaredMethods()) {
      if (!Modifier.isPublic(m.getModifiers())) continue;
      int parameters = m.getParameterCount();
      int all = (int) Math.pow(VALUES.length, Math.min(3, parameters));
      FatPointers x = null;
      for (int n = 0; n < all; n++) {
        if (n % 100 == 0) {
          x = new FatPointers();
          scene.accept(x);
        }
        Object[] arguments = new Object[parameters];
        for (int i = 0, rest = n; i < parameters; i++, rest /= VALUES.length) arguments[i] = VALUES[rest % VALUES.length];
        answers(where + ", " + m.getName() + " of " + java.util.Arrays.toString(arguments), m, x, arguments);
      }
    }
  }

  private static void answers(String what, Method m, FatPointers x, Object[] arguments) throws IllegalAccessException {
    try {
      b.due(what, m.invoke(x, arguments) != null, true);
    } catch (InvocationTargetException e) {
      b.due(what + " threw " + e.getCause(), true, false);
    }
  }

  /** Texts and images of one byte again and again, of each value and of lengths up to a full tape. */
  private static void everyTape() {
    for (int value = 0; value < 256; value++) {
      for (int length : new int[] {1, 2, 32, 130, 258, 1600}) {
        FatPointers x = new FatPointers();
        String text = String.valueOf((char) value).repeat(length);
        for (String lead : new String[] {"", "memory 64 mantissa 4;", "memory 64 mantissa 4;traps "}) {
          String tape = lead + text;
          machine(x, tape.substring(0, Math.min(1600, tape.length())));
        }
        machine(x, "memory 64 mantissa 8;shelf a kind 1;");
        for (String lead : new String[] {"", "first ", "total ", "total 1"}) {
          String tape = lead + text;
          Lead.tape(x, tape.substring(0, Math.min(1600, tape.length())));
          b.due("ask of " + value, x.ask() >= FatPointers.NOTHING, true);
        }
        Lead.tape(x, text);
        b.due("see of " + value, x.see() >= -1, true);
        Lead.tape(x, text);
        b.due("on of " + value, x.on() && value > 0, false);
      }
    }
  }
}
