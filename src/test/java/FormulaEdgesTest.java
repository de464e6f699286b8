/** Formulas at their edges, where they stand in traps, pads, picks and questions: terms I, words by words. */
public final class FormulaEdgesTest {
  private static final Bench b = new Bench("FormulaEdgesTest");

  public static void main(String[] args) {
    orAndNot();
    facts();
    productsOfParts();
    asLongAsATape();
    fromTheLeft();
    division();
    tenToTheSix();
    minAndMax();
    withoutFormulas();
    theNamesOfAPart();
    b.ends();
  }

  /** Whether a test of traps holds for a pointer at 17 of 16 .. 23 with permits 3. */
  private static boolean holds(String test) {
    b.fresh();
    b.due("machine, traps " + test, b.machine("memory 64 mantissa 4;traps " + test + ";"), 2);
    b.x.alloc(0, 8);
    b.x.move(0, 1);
    return b.x.load(0) == -1;
  }

  private static void test(String test, boolean want) {
    b.due("traps " + test, holds(test), want);
    b.answers("often " + test, want ? 16 : 0);
    b.answers("first " + test, want ? 0 : -1);
    b.answers("last " + test, want ? 15 : -1);
  }

  private static String written(long value) {
    if (value < 0) return "(0-" + -value / 1000 + "*1000-" + -value % 1000 + ")";
    return "(" + value / 1000 + "*1000+" + value % 1000 + ")";
  }

  /** The sum by a question, and where it alone decides whether a trap, a padding, a hole is the one due. */
  private static void sum(String sum, long want) {
    String v = written(want);
    b.due("traps " + sum, holds(sum + "=" + v), true);
    b.answers("most " + sum, want);
    b.answers("least " + sum, want);
    b.answers("total " + sum, 16 * want);
    String unlike = "min(1,max(" + sum + "-" + v + "," + v + "-(" + sum + ")))";
    b.fresh();
    b.due("machine, pads", b.machine("memory 64 mantissa 8;pads 7*(1-" + unlike + ");"), 2);
    b.x.alloc(0, 1);
    b.due("pads " + sum, b.x.object(0, 1), 8);
    b.fresh();
    b.due("machine, picks", b.machine("memory 64 mantissa 8;picks start*(1-2*" + unlike + ");"), 2);
    for (int i = 0; i < 3; i++) b.x.alloc(i, 5);
    b.x.free(0);
    b.due("picks " + sum, b.x.room(1), 16);
  }

  private static void orAndNot() {
    b.about("TEST: BOTH { or BOTH }. BOTH: FACT { and FACT }.");
    String no = "1=2";
    test("all or all and " + no, true);
    test(no + " and all or all", true);
    test(no + " and [all or all]", false);
    test("[all or all] and " + no, false);
    test(no + " or " + no, false);
    test(no + " or all", true);
    test("all or " + no, true);
    test("all or all", true);
    test("all and all", true);
    test("all and " + no, false);
    test(no + " and all", false);
    test(no + " or " + no + " or all", true);
    test("all and all and " + no, false);
  }

  private static void facts() {
    b.about("FACT: not FACT; [ TEST ] ; all; SUM SIGN SUM, SIGN < or > or = .");
    test("all", true);
    test("not all", false);
    test("not not all", true);
    test("not all or all", true);
    test("not[all or all]", false);
    test("not all and 1=2", false);
    test("not 1=2 and all", true);
    test("not[all and 1=2]", true);
    int[][] pairs = {{4, 5}, {5, 5}, {6, 5}};
    for (int[] p : pairs) {
      test(p[0] + "<" + p[1], p[0] < p[1]);
      test(p[0] + ">" + p[1], p[0] > p[1]);
      test(p[0] + "=" + p[1], p[0] == p[1]);
    }
    test("0-1<0", true);
    test("0-1>0", false);
    test("1+1=3-1", true);
  }

  private static void productsOfParts() {
    b.about("SUM: PRODUCT { + or - PRODUCT }. PRODUCT: PART { * or / PART }.");
    sum("5", 5);
    sum("5+6", 11);
    sum("5-6", -1);
    sum("5*6", 30);
    sum("6/5", 1);
    sum("2+3*4-10/5", 12);
    sum("2*3-4*5+6", -8);
    sum("1+1-1+1-1*1/1*1", 1);
  }

  /** What 1600 bytes can hold: as many parts in a row, and as many that wait for others at once. */
  private static void asLongAsATape() {
    b.fresh();
    b.machine("memory 64 mantissa 8;");
    b.answers("total 1" + "+1".repeat(796), 16 * 797);
    b.answers("total 1" + "*1".repeat(796), 16);
    b.answers("total 10" + "+1".repeat(796), 16 * 806);
    b.answers("total " + " ".repeat(1588) + "number", 120);
    b.answers("often " + " ".repeat(1591) + "all", 16);
    b.askFails("often " + " ".repeat(1592) + "al", 1, 1598);
    b.answers("total " + " ".repeat(1590) + "1234", 16 * 1234);
    b.answers("often all" + " or all".repeat(227), 16);
    b.answers("often all" + " and all".repeat(198), 16);
    b.answers("often all" + " and all".repeat(197) + " and 1=2", 0);
    b.answers("often 1=2 or all and 8=" + "1+1*min(9,".repeat(6) + "2" + ")".repeat(6), 16);
    b.answers("often 1=2 or all and 9=" + "1+1*min(9,".repeat(6) + "2" + ")".repeat(6), 0);
    b.answers("often " + "[1=2 or all and ".repeat(6) + "1<1+1*7" + "]".repeat(6), 16);
    b.answers("often " + "[1=2 or all and ".repeat(6) + "1<1-1*7" + "]".repeat(6), 0);
    b.due("a machine as long", b.machine("memory 64 mantissa 8;pads 1" + "+1".repeat(70) + "-1".repeat(60) + "*1".repeat(655) + ";"), 2);
    b.x.alloc(0, 1);
    b.due("its padding", b.x.object(0, 1), 12);
  }

  private static void fromTheLeft() {
    b.about("All from the left on;");
    sum("10-3-2", 5);
    sum("10-3+2", 9);
    sum("100/7/2", 7);
    sum("100/(7/2)", 33);
    sum("7/2*2", 6);
    sum("2*7/2", 7);
    sum("1+2*3", 7);
    sum("(1+2)*3", 9);
    sum("12-6/2", 9);
    sum("2*3+4*5", 26);
  }

  private static void division() {
    b.about("/ gives the greatest whole number not above, by 0 it gives 0;");
    sum("7/2", 3);
    sum("6/3", 2);
    sum("2/3", 0);
    sum("0/5", 0);
    sum("(0-7)/2", -4);
    sum("(0-6)/3", -2);
    sum("(0-1)/9999", -1);
    sum("7/(0-2)", -4);
    sum("1/(0-9999)", -1);
    sum("(0-7)/(0-2)", 3);
    sum("5/0", 0);
    sum("0/0", 0);
    sum("(0-5)/0", 0);
    sum("5/(3-3)+1", 1);
    sum("1000*1000/1", 1000000);
    sum("(0-1000*1000)/1", -1000000);
  }

  private static void tenToTheSix() {
    b.about("each sum, difference, product above 10 to the 6 is that, below -10 to the 6 likewise.");
    sum("999*1000+999", 999999);
    sum("999*1000+999+1", 1000000);
    sum("999*1000+999+2", 1000000);
    sum("1000*1000", 1000000);
    sum("1001*999", 999999);
    sum("1001*1000", 1000000);
    sum("0-999*1000-999", -999999);
    sum("0-999*1000-999-1", -1000000);
    sum("0-999*1000-999-2", -1000000);
    sum("(0-1001)*999", -999999);
    sum("(0-1001)*1000", -1000000);
    sum("(0-1001)*(0-1000)", 1000000);
    // What is cut is cut there, not at the end.
    sum("1000*1000+5-10", 999990);
    sum("0-1000*1000-5+10", -999990);
    sum("1001*1000-1000*1000", 0);
    sum("1001*1000/2", 500000);
    sum("1000*1000-(0-1)", 1000000);
    // Beyond what 32 bits hold.
    sum("9999*9999*9999*9999", 1000000);
    sum("(0-1000*1000)*(1000*1000)", -1000000);
    sum("1000*1000*(1000*1000)-1", 999999);
  }

  private static void minAndMax() {
    b.about("( SUM ) ; min ( SUM , SUM ) ; max ( SUM , SUM ) ; in picks");
    sum("min(3,4)", 3);
    sum("min(4,3)", 3);
    sum("min(4,4)", 4);
    sum("max(3,4)", 4);
    sum("max(4,3)", 4);
    sum("max(0-3,0-4)", -3);
    sum("min(0-3,0-4)", -4);
    sum("2*min(1+2,max(4,5)*6)", 6);
    sum("(7)", 7);
  }

  private static void withoutFormulas() {
    b.about("Without: picks is start, pads is 0, no TEST of traps holds.");
    b.machine("memory 64 mantissa 8;");
    for (int i = 0; i < 3; i++) b.x.alloc(i, 5);
    b.due("pads is 0", b.x.object(2, 1), 5);
    b.x.free(0);
    b.due("picks is start: the hole at 16, not the longer one", b.x.room(1), 16);
    b.due("no trap", b.x.load(1), 0);
    // The formulas of another machine are none of this one.
    b.machine("memory 64 mantissa 8;picks 0-start;pads 9;traps all;");
    b.machine("memory 64 mantissa 8;");
    for (int i = 0; i < 3; i++) b.x.alloc(i, 5);
    b.due("pads is 0", b.x.object(2, 1), 5);
    b.x.free(0);
    b.due("picks is start", b.x.room(1), 16);
    b.due("no trap", b.x.load(1), 0);
    // Nor are those of a text with a fault.
    b.machine("memory 64 mantissa 8;picks 0-start;pads 9;traps all;x");
    b.due("pads is 0", b.x.alloc(5, 20) == 31 && b.x.object(2, 1) == 20, true);
    b.due("picks is start", b.x.room(1), 16);
    b.due("no trap", b.x.load(1), 0);
  }

  private static void theNamesOfAPart() {
    b.about("(How many bytes are asked for; where a HOLE begins, how many bytes it has; the address, the bounds, the permits of a"
        + " POINTER that is followed.)");
    b.due("at", holds("at=17"), true);
    b.due("base", holds("base=16"), true);
    b.due("length", holds("length=8"), true);
    b.due("perms", holds("perms=3"), true);
    b.due("all but that", holds("at<17 or at>17 or base<16 or base>16 or length<8 or length>8 or perms<3 or perms>3"), false);
    b.fresh();
    b.machine("memory 128 mantissa 8;pads need*2;");
    b.x.alloc(0, 7);
    b.due("need in pads is as asked for", b.x.object(0, 1), 21);
    // Nine bytes are ten by M 4, from 18 or 42 on: just by the hole's own numbers, 17 and 24, the second is picked.
    String[] sums = {"(max(need-10,10-need)*2-1)*start", "1-2*min(1,max(start-17,17-start))", "1-2*min(1,max(room-24,24-room))"};
    for (String sum : sums) {
      b.fresh();
      b.machine("memory 64 mantissa 4;picks " + sum + ";");
      int[] bytes = {1, 8, 8, 8, 1};
      for (int i = 0; i < 5; i++) b.x.alloc(i, bytes[i]);
      for (int i = 1; i < 4; i++) b.x.free(i);
      b.due("holes from 17 and 42 on", b.x.hole(0, 0) == 17 && b.x.hole(1, 0) == 42, true);
      b.due("holes of 24 and 22", b.x.hole(0, 1) == 24 && b.x.hole(1, 1) == 22, true);
      b.due("picks " + sum, b.x.room(9), 42);
    }
  }
}
