/** Questions at their edges: terms IV, promise 41, words by words. Sums and tests alone are in FormulaEdgesTest. */
public final class QuestionEdgesTest {
  private static final String[] PARTS = {"number", "at", "base", "length", "exp", "kind", "perms", "valid"};
  private static final String[] OTHERS = {
    "memory", "mantissa", "shelf", "picks", "pads", "traps", "need", "start", "room", "or", "and", "first", "last", "often", "total", "most",
    "least", "box", "numbers", "numbe", "a"
  };
  private static final Bench b = new Bench("QuestionEdgesTest");

  public static void main(String[] args) {
    firstLastOften();
    totalMostLeast();
    parts();
    itsNumbers();
    theBaseOfAnother();
    aStepThatFits();
    byEachMantissa();
    anUnknownWord();
    whatStandsBehind();
    asInI();
    sevenOpen();
    fromAndFitsEnd();
    theTapeGoes();
    holdsForNone();
    nothing();
    belowZero();
    withoutAMachine();
    b.ends();
  }

  /** 0 at 17 of 16 .. 26 by E 1; 1 at 26 of 26 .. 29, sealed by 3; 2 not valid at 100; 15 at 3. */
  private static void scene() {
    b.due("machine", b.machine("memory 128 mantissa 4;"), 1);
    b.x.alloc(0, 9);
    b.x.alloc(1, 3);
    b.x.copy(1, 2);
    b.x.move(2, 100 - 26);
    b.x.move(0, 1);
    b.x.move(15, 3);
    b.x.seal(1, 15);
  }

  private static void firstLastOften() {
    b.about("A QUESTION is a text, of all POINTERS: first TEST, last TEST (the first, the last POINTER for which it holds), often TEST (for how many),");
    scene();
    b.answers("first all", 0);
    b.answers("last all", 15);
    b.answers("often all", 16);
    b.answers("first number>0", 1);
    b.answers("last number<15", 14);
    b.answers("often number>0", 15);
    b.answers("first number=15", 15);
    b.answers("last number=0", 0);
    b.answers("often number=0", 1);
    b.answers("often number=16", 0);
    b.answers("first valid=0", 2);
    b.answers("last valid=1 and number<15", 1);
    b.answers("often valid=0", 13);
  }

  private static void totalMostLeast() {
    b.about("total SUM (of all together), most SUM, least SUM (the greatest, the least of all).");
    scene();
    b.answers("total number", 120);
    b.answers("most number", 15);
    b.answers("least number", 0);
    b.answers("most 0-number", 0);
    b.answers("least 0-number", -15);
    b.answers("most 0-number-1", -1);
    b.answers("least number+1", 1);
    b.answers("total number-8", -8);
    b.answers("total 0", 0);
    // The sum of all together is no sum of the formula: it is not cut.
    b.answers("total 1000*1000", 16000000);
    b.answers("total 0-1000*1000", -16000000);
    b.answers("least number*1000*1000-1", -1);
    b.answers("most number*1000*1000", 1000000);
  }

  private static void parts() {
    b.about("but PART: N; number; at; base; length; exp; kind; perms; valid; from PART; fits PART; ( SUM ) ; min ( SUM , SUM ) ; max ( SUM , SUM ) .");
    scene();
    for (String word : PARTS) b.due("total " + word, b.ask("total " + word) >= 0 && b.x.fault(0) == 0, true);
    for (String word : PARTS) b.due("often " + word + "=1", b.ask("often " + word + "=1") >= 0 && b.x.fault(0) == 0, true);
    for (String word : OTHERS) b.askFails("total " + word, 1, 6);
    for (String word : OTHERS) b.askFails("often " + word + "=1", 1, 6);
    for (String word : OTHERS) b.askFails("total from " + word, 1, 11);
    b.askFails("total not", 1, 6);
    b.askFails("total all", 1, 6);
    b.askFails("total min", 1, 9);
    b.askFails("total from", 1, 10);
    b.askFails("total fits", 1, 10);
    b.askFails("total from fits", 1, 15);
    b.askFails("total from all", 1, 11);
    b.answers("most from 0", 16);
    b.answers("most from(0)", 16);
    b.answers("most from min(0,1)", 16);
    b.answers("most from from number", 16);
    b.answers("most (number)", 15);
    b.answers("most min(number,at)", 3);
    b.answers("least max(number,at)", 3);
  }

  private static void itsNumbers() {
    b.about("(Its number; its address, its bounds as DECODED, its E, KIND, permits; 1 if it is VALID, else 0;");
    scene();
    long[][] want = {{0, 17, 16, 10, 1, 0, 3, 1}, {1, 26, 26, 3, 0, 3, 3, 1}, {2, 100, 90, 3, 0, 0, 3, 0}, {3, 0, 0, 0, 0, 0, 0, 0}, {15, 3, 0, 4096, 9, 0, 7, 1}};
    for (long[] row : want) {
      for (int i = 0; i < PARTS.length; i++) {
        b.answers("often number=" + row[0] + " and " + PARTS[i] + "=" + row[i], 1);
        b.answers("first number=" + row[0] + " and not " + PARTS[i] + "=" + row[i], -1);
      }
    }
  }

  private static void theBaseOfAnother() {
    b.about("the base of the POINTER of that number, 0 without one;");
    scene();
    b.answers("least from 0", 16);
    b.answers("least from 1", 26);
    b.answers("least from 2", 90);
    b.answers("most from 3", 0);
    b.x.alloc(15, 2);
    b.answers("least from 15", 29);
    b.answers("most from 16", 0);
    b.answers("most from 9999", 0);
    b.answers("most from(0-1)", 0);
    b.answers("least from(0-1)", 0);
    b.answers("most from(9999*9999)", 0);
    b.answers("most from(0-9999*9999)", 0);
    b.answers("most from(from 0-15)", 26);
    b.answers("most from 0+1", 17);
    b.answers("total from number", 16 + 26 + 90 + 29);
    shelvesAreNone();
  }

  private static void shelvesAreNone() {
    b.fresh();
    b.machine("memory 64 mantissa 4;shelf s kind 3;");
    b.x.move(15, 3);
    b.x.alloc(0, 4);
    b.x.seal(0, 15);
    b.x.shelve(0, 0);
    b.answers("most from 16", 0);
    b.answers("often kind=3", 1);
    b.answers("total base", 16);
  }

  private static void aStepThatFits() {
    b.about("1 if that step, -4095 .. 4095, FITS it, else 0.)");
    scene();
    // 0 at 17: its window is 8 .. 39. 1 at 26: 22 .. 37. 15: all.
    b.answers("often number=0 and fits 22=1", 1);
    b.answers("often number=0 and fits 23=0", 1);
    b.answers("often number=0 and fits(0-9)=1", 1);
    b.answers("often number=0 and fits(0-10)=0", 1);
    b.answers("often number=1 and fits 11=1", 1);
    b.answers("often number=1 and fits 12=0", 1);
    b.answers("often number=15 and fits 4095=1", 1);
    b.answers("often number=15 and fits 4096=0", 1);
    b.answers("often number=15 and fits 9999=0", 1);
    b.answers("often number=15 and fits(0-4095)=1", 1);
    b.answers("often number=15 and fits(0-4096)=0", 1);
    b.answers("often number=15 and fits(1000*1000)=0", 1);
    b.answers("often number=15 and fits(0-1000*1000)=0", 1);
    b.answers("total fits 0", 16);
    b.answers("total fits 4096", 0);
    b.answers("total fits(0-4096)", 0);
    b.answers("total fits 4095", 16);
    b.answers("total fits(0-4095)", 16);
    b.answers("total fits 1+1", 32);
    b.answers("total fits(23*fits 22)", 15);
    // 2 at 100 is at the last but one of its window, those at 0 have eleven to go.
    b.answers("total fits number", 16 - 4);
  }

  private static void byEachMantissa() {
    b.about("fits PART; ( SUM ) ;");
    for (int m = 4; m <= 8; m++) {
      b.fresh();
      b.due("machine", b.machine("memory 1024 mantissa " + m + ";traps all;"), 2);
      int half = 1 << (m - 1);
      b.x.alloc(0, 2);
      b.x.alloc(3, half);
      b.due("its base", b.x.pointer(3, 2), 18);
      b.answers("least from 3", 18);
      b.answers("most base", 18);
      b.answers("most length*(1-number/15)", half);
      int last = 18 - half / 2 + 2 * half - 1 - 18;
      b.answers("often number=3 and fits " + last + "=1", 1);
      b.answers("often number=3 and fits " + (last + 1) + "=0", 1);
      b.answers("often number=3 and fits(0-" + half / 2 + ")=1", 1);
      b.answers("often number=3 and fits(0-" + (half / 2 + 1) + ")=0", 1);
    }
  }

  private static void anUnknownWord() {
    b.about("1 as in I (an unknown word at its first byte;");
    scene();
    b.askFails("", 1, 0);
    b.askFails("\n ", 1, 2);
    b.askFails("x", 1, 0);
    b.askFails("  firs all", 1, 2);
    b.askFails("firsts all", 1, 0);
    b.askFails("First all", 1, 0);
    b.askFails("7", 1, 0);
    b.askFails("all", 1, 0);
    b.askFails("memory 64 mantissa 4;", 1, 0);
    b.askFails("total unknown", 1, 6);
    b.askFails("total abcdefghijkl", 1, 6);
    b.askFails("total 1+numberr", 1, 8);
    b.askFails("first all nor all", 1, 10);
    for (String word : new String[] {"first", "last", "often", "total", "most", "least"}) b.askFails(word, 1, word.length());
    for (String word : new String[] {"first", "last", "often"}) b.askFails(word + " 1", 1, word.length() + 2);
    for (String word : new String[] {"total", "most", "least"}) b.askFails(word + " all", 1, word.length() + 1);
  }

  private static void whatStandsBehind() {
    b.about("what stands behind it, too);");
    scene();
    b.askFails("total 1;", 1, 7);
    b.askFails("total 1 ;", 1, 8);
    b.askFails("total 1 2", 1, 8);
    b.askFails("total 1 total 1", 1, 8);
    b.askFails("total 1)", 1, 7);
    b.askFails("total 1]", 1, 7);
    b.askFails("total 1=1", 1, 7);
    b.askFails("total 1 or 1", 1, 8);
    b.askFails("first all all", 1, 10);
    b.askFails("first all]", 1, 9);
    b.askFails("first 1=1=1", 1, 9);
    b.askFails("first all" + (char) 0, 1, 9);
    b.askFails("first all" + (char) 255, 1, 9);
    b.answers("first all\n \n", 0);
    b.answers(" \n first all", 0);
  }

  private static void asInI() {
    b.about("TEST, SUM as in I,");
    scene();
    b.askFails("total12", 1, 5);
    b.askFails("total 1number", 1, 7);
    b.askFails("total number1", 1, 12);
    b.askFails("total 12345", 1, 10);
    b.askFails("total 00000", 1, 10);
    b.answers("total 0001", 16);
    b.answers("most 9999", 9999);
    b.askFails("total from 12345", 1, 15);
    b.askFails("total fits1", 1, 10);
    b.askFails("total (1", 1, 8);
    b.askFails("total min(1", 1, 11);
    b.askFails("total min(1,2", 1, 13);
    b.askFails("total -1", 1, 6);
    b.askFails("first [all", 1, 10);
    b.askFails("first not", 1, 9);
    b.askFails("first all or", 1, 12);
    b.askFails("first 1<", 1, 8);
    b.askFails("first 1<=2", 1, 8);
    b.askFails("first all and", 1, 13);
    for (String sign : new String[] {"+", "-", "*", "/"}) b.askFails("total 1" + sign, 1, 8);
    for (String sign : new String[] {"+", "-", "*", "/"}) b.askFails("total 1" + sign + ")", 1, 8);
    b.askFails("total min(1,)", 1, 12);
    b.askFails("total\t1", 1, 5);
    b.answers("total(1)", 16);
    b.answers("often[all]", 16);
  }

  private static void sevenOpen() {
    b.about("4 the 7th of ( [ not from fits that is open at once");
    scene();
    String[] openers = {"(", "from ", "fits ", "min("};
    for (String first : openers) {
      for (String last : openers) {
        StringBuilder six = new StringBuilder("total ");
        for (int i = 0; i < 5; i++) six.append(first);
        b.due("six of " + first + last, b.ask(closed(six + last)) != Bench.NOTHING, true);
        six.append(first);
        int place = six.length() + (last.equals("min(") ? 3 : 0);
        b.askFails(closed(six + last), 4, place);
      }
    }
    b.answers("often not not[[(from 1)=from(1)]]", 16);
    b.askFails("often not not[[(from(1))=1]]", 4, 20);
    b.askFails("first [[[[[[[all]]]]]]]", 4, 12);
    b.askFails("first not not not not not not not all", 4, 30);
  }

  /** The number and the ends of all that a question of these openers has open. */
  private static String closed(String open) {
    StringBuilder s = new StringBuilder(open).append('1');
    for (int i = open.length() - 1; i >= 0; i--) if (open.charAt(i) == '(') s.append(i > 2 && open.charAt(i - 1) == 'n' ? ",1)" : ")");
    return s.toString();
  }

  private static void fromAndFitsEnd() {
    b.about("(not until its FACT, from, fits until its PART ends), at it.");
    scene();
    // From 0 on the bases are 16, 0, 16 by turns, as there is no pointer 16.
    b.answers("most from from from from from from 3+from from from from from from 3", 32);
    b.answers("most fits fits fits fits fits fits 1+((((((1))))))", 2);
    b.answers("most from(1)+((((((1))))))", 27);
    b.answers("often fits 1=fits 1 and [[[[[[all]]]]]]", 16);
    b.answers("often not fits 1=0 and not not not not not not all", 16);
    b.answers("often not not not not not from 1=from 1", 0);
    b.askFails("often not not not not not not from 1=1", 4, 30);
    b.askFails("often not not not not not not 1=from 1", 4, 32);
    b.askFails("most from((((((1))))))", 4, 14);
    b.answers("most from(((((1)))))", 26);
    b.askFails("most from min(fits(max(from(1),1)),1)", 4, 27);
    b.answers("most from min(fits(max(from 1,1)),1)", 26);
  }

  // ---- promise 41

  private static void theTapeGoes() {
    b.about("The tape (it goes) is a QUESTION: its answer;");
    scene();
    b.answers("total 2", 32);
    b.due("the tape is gone", b.x.feed(0, 0, 0, 0, 0), 20);
    b.askFails("total )", 1, 6);
    b.due("the tape is gone", b.x.feed(0, 0, 0, 0, 0), 20);
    b.fresh();
    b.ask("total 2");
    b.due("without a machine, too", b.x.feed(0, 0, 0, 0, 0), 20);
  }

  private static void holdsForNone() {
    b.about("NONE of first, last, when its TEST holds for none;");
    scene();
    b.answers("first not all", FatPointers.NONE);
    b.answers("last not all", FatPointers.NONE);
    b.answers("often not all", 0);
    b.answers("first number=16", -1);
    b.answers("last number<0", -1);
  }

  private static void nothing() {
    b.about("NOTHING with a FAULT,");
    scene();
    b.due("with a fault", b.ask("total x"), FatPointers.NOTHING);
    b.due("with fault 4", b.ask("total ((((((("), FatPointers.NOTHING);
    for (int i = 0; i < 8; i++) b.due("nothing is refused, status(" + i + ")", b.x.status(i), 0);
    b.due("the machine stays", b.x.has(0), 128);
    b.due("and all else", b.x.has(9), 7);
  }

  private static void belowZero() {
    b.about("`NOTHING = -1000000000000000L`: Told where a number below 0 may be one.");
    b.due("NOTHING", FatPointers.NOTHING, -1000000000000000L);
    scene();
    b.answers("least 0-1", -1);
    b.answers("total 0-1000*1000", -16000000);
    b.due("a fault is told apart from them", b.ask("total"), -1000000000000000L);
  }

  private static void withoutAMachine() {
    b.about("or, doing nothing else, without a machine.");
    b.due("a right one", b.ask("total 1"), FatPointers.NOTHING);
    b.due("no fault", b.x.fault(0), 0);
    b.due("a wrong one", b.ask("total x"), FatPointers.NOTHING);
    b.due("no fault", b.x.fault(0), 0);
    b.due("no place", b.x.fault(1), -1);
    b.fails("memory 6", 2, 7);
    b.due("a right one", b.ask("total 1"), FatPointers.NOTHING);
    b.due("the machine's fault", b.x.fault(0), 2);
    b.due("its place", b.x.fault(1), 7);
    b.due("counted is the machine alone", b.x.status(1), 1);
  }
}
