/** The tape, machines and their faults at their edges: terms I, promises 1 to 5 and 7, words by words. */
public final class TextEdgesTest {
  private static final String M = "memory 64 mantissa 4;";
  /** Where the second statement begins. */
  private static final int AT = M.length();
  private static final String FOUR = M + "shelf a kind 1;shelf b kind 1;shelf c kind 1;shelf d kind 1;";
  private static final String[] OWN = {
    "memory", "mantissa", "shelf", "kind", "picks", "pads", "traps", "need", "start", "room", "at", "base", "length",
    "perms", "number", "exp", "valid", "from", "fits", "or", "and", "not", "all", "min", "max"
  };
  private static final String[] ASKING = {"first", "last", "often", "total", "most", "least"};
  private static final Bench b = new Bench("TextEdgesTest");

  public static void main(String[] args) {
    aNewObject();
    twentyBytes();
    aFullTape();
    endOfTheTape();
    endRefused();
    statements();
    theTapeGoes();
    withAFault();
    withoutAStatement();
    withoutAFault();
    faultAndPlace();
    faultOfOthers();
    letters();
    fortyAtMost();
    memoryAndMantissa();
    theFirstStatementAlone();
    kinds();
    formulas();
    digits();
    wordsOfPads();
    wordsOfPicks();
    wordsOfTraps();
    names();
    ownWords();
    blanks();
    sideBySide();
    theFirstAlongTheText();
    wholeWords();
    ownWordsAsNames();
    aSeventhLetter();
    aFifthDigit();
    endingTooSoon();
    numbersThatCannotBe();
    namesThatAreThere();
    sevenOpen();
    notUntilItsFactEnds();
    oneTooMany();
    b.ends();
  }

  // ---- promises 1 to 5 and 7

  private static void aNewObject() {
    b.about("No machine; no POINTER is there.");
    for (int i = 0; i <= 10; i++) b.due("has(" + i + ")", b.x.has(i), 0);
    for (int p = 0; p < 16; p++) {
      for (int what = 0; what < 9; what++) b.due("pointer(" + p + ", " + what + ")", b.x.pointer(p, what), -1);
    }
    for (int i = 0; i < 8; i++) b.due("status(" + i + ")", b.x.status(i), 0);
    b.due("the tape is empty", b.x.end(1), false);
  }

  private static void twentyBytes() {
    b.about("Twenty bytes come behind those on the tape, of each number the highest first: how many there are");
    b.due("the first feed", b.x.feed(0x6d656d6f, 0x72792036, 0x34206d61, 0x6e746973, 0x73612034), 20);
    b.due("the second feed", b.x.feed(0x3b70e164, 0, 0, 0, -1), 40);
    b.due("end", b.x.end(24), true);
    b.due("the text is: memory 64 mantissa 4;p, 225, d", b.x.machine(), -1);
    b.due("its place, behind p", b.x.fault(1), 21);
    b.due("nothing is left", b.x.feed(0x6d656d6f, 0x72792036, 0x34206d61, 0x6e746973, 0x73612034), 20);
    b.due("twenty bytes are no machine yet", b.x.machine(), -1);
    b.due("its place", b.x.fault(1), 20);
  }

  private static void fill(String text, int bytes) {
    StringBuilder s = new StringBuilder(text);
    while (s.length() < bytes) s.append(' ');
    b.tape(s.toString());
  }

  private static void aFullTape() {
    b.about("NONE, refused (0), if there would be more than 1600.");
    fill(M, 1580);
    b.due("feed behind 1580", b.x.feed(0x20202020, 0x20202020, 0x20202020, 0x20202020, 0x20202078), 1600);
    b.due("feed behind 1600", b.x.feed(0, 0, 0, 0, 0), -1);
    b.due("status(0)", b.x.status(0), 1);
    b.due("the tape is as it was", b.x.machine(), -1);
    b.due("its last byte, x, is a fault", b.x.fault(1), 1599);
    b.stands(M + " ".repeat(1590 - AT) + "traps all;", 2);
    b.fails(M + " ".repeat(1591 - AT) + "traps all", 1, 1600);
    b.fails(M + " ".repeat(1591 - AT) + "shelf max", 1, 1597);
    b.fails(M + " ".repeat(1591 - AT) + "shelf abc", 1, 1600);
    b.fails(M + " ".repeat(1591 - AT) + "pads 1234", 1, 1600);
    for (int bytes = 1581; bytes < 1600; bytes++) {
      b.fresh();
      fill(M, bytes);
      b.due("feed behind " + bytes, b.x.feed(0, 0, 0, 0, 0), -1);
      b.due("status(0)", b.x.status(0), 1);
      b.due("the tape has no more then", b.x.end(bytes + 1), false);
      b.due("and no fewer", b.x.end(bytes), true);
      b.due("the tape is as it was", b.x.machine(), 1);
    }
  }

  private static void endOfTheTape() {
    b.about("The tape has its first n bytes alone: true");
    b.due("end(0) of an empty tape", b.x.end(0), true);
    b.tape(M + "x");
    b.due("all of it", b.x.end(AT + 1), true);
    b.due("but the last", b.x.end(AT), true);
    b.due("it has no more then", b.x.end(AT + 1), false);
    b.due("the first ones are left", b.x.machine(), 1);
    b.tape(M);
    b.due("none of it", b.x.end(0), true);
    b.due("nothing is left", b.x.machine(), -1);
    b.due("fault at 0", b.x.fault(1), 0);
    b.tape(M);
    b.x.end(7);
    b.due("behind what is left", b.x.feed(0x3634206d, 0x616e7469, 0x73736120, 0x343b2020, 0x20202020), 27);
    b.due("memory 64 mantissa 4;", b.x.machine(), 1);
  }

  private static void endRefused() {
    b.about("false, refused (0), if it has not so many, or n is below 0.");
    b.due("end(1) of an empty tape", b.x.end(1), false);
    b.tape(M);
    int refused = 1;
    for (int n : new int[] {AT + 1, Integer.MAX_VALUE, -1, Integer.MIN_VALUE}) {
      b.due("end(" + n + ")", b.x.end(n), false);
      b.due("status(0)", b.x.status(0), ++refused);
    }
    b.due("all is on the tape", b.x.machine(), 1);
    fill(M, 1600);
    b.due("end(1601)", b.x.end(1601), false);
    b.due("end(1600)", b.x.end(1600), true);
  }

  private static void statements() {
    b.about("is THE MACHINE: how many STATEMENTS");
    String[] more = {"shelf a kind 1;", "picks 1;", "shelf b kind 1;", "pads 1;", "shelf c kind 1;", "traps all;", "shelf d kind 1;"};
    String text = M;
    b.stands(text, 1);
    for (int i = 0; i < more.length; i++) {
      text += more[i];
      b.stands(text, i + 2);
    }
  }

  private static void theTapeGoes() {
    b.about("The tape (it goes) is THE MACHINE");
    b.tape(M);
    b.due("machine", b.x.machine(), 1);
    b.due("nothing is on the tape", b.x.end(1), false);
    b.due("machine of nothing", b.x.machine(), -1);
    b.tape(M + "x");
    b.due("machine with a fault", b.x.machine(), -1);
    b.due("nothing is on the tape", b.x.end(1), false);
    b.due("the first bytes of it", b.x.feed(0, 0, 0, 0, 0), 20);
  }

  private static void withAFault() {
    b.about("NONE, refused (1), with a FAULT (all stays");
    b.stands(M + "shelf a kind 3;", 2);
    b.x.alloc(0, 8);
    b.x.store(0, 5);
    b.see(64, 1);
    String[] wrong = {
      M + "x", "memory 63 mantissa 4;", M + "shelf a kind 1;shelf a kind 2;", M + "pads (((((((1)))))));", M + "pads 1;pads 1;"
    };
    for (int i = 0; i < wrong.length; i++) {
      b.due(wrong[i], b.machine(wrong[i]), -1);
      b.due("fault " + (i + 1), b.x.fault(0), i + 1);
      b.due("status(1)", b.x.status(1), i + 1);
      int[] has = {64, 4, 2, 1, 8, 1, 40, 1, 1, 2, 1};
      for (int k = 0; k < has.length; k++) b.due("has(" + k + ") stays", b.x.has(k), has[k]);
      b.due("the byte stays", b.x.load(0), 5);
      b.due("the name stays", b.x.letter(0, 0), 1);
    }
  }

  private static void withoutAStatement() {
    b.about("one without a STATEMENT has FAULT 1 at its length");
    b.fails("", 1, 0);
    b.fails(" ", 1, 1);
    b.fails("\n \n  ", 1, 5);
    fill("", 1600);
    b.due("a tape of blanks", b.x.machine(), -1);
    b.due("its fault", b.x.fault(0), 1);
    b.due("its place", b.x.fault(1), 1600);
    b.due("status(1)", b.x.status(1), 4);
  }

  private static void withoutAFault() {
    b.about("Without one all is as at first, nothing is KEPT, SEEN or can be undone; the seed stays.");
    b.stands("memory 96 mantissa 5;shelf s kind 2;pads 3;picks 0-start;traps all;", 5);
    b.x.move(15, 2);
    b.x.alloc(0, 8);
    b.x.store(15, 9);
    b.x.alloc(1, 39);
    b.due("E, B, T, permits of one", b.x.pointer(1, 4) > 0 && b.x.pointer(1, 5) > 0 && b.x.pointer(1, 6) > 0 && b.x.pointer(1, 7) > 0, true);
    for (int p = 2; p < 15; p++) b.x.copy(1, p);
    b.x.seal(1, 15);
    b.x.seal(0, 15);
    b.x.shelve(0, 0);
    b.see(64, 1, 60, 1);
    b.x.seed(9);
    b.x.chance(2);
    b.stands(M + "shelf t kind 2;", 2);
    int[] has = {64, 4, 1, 0, 0, 1, 48, 0, 0, 0, 1};
    for (int k = 0; k < has.length; k++) b.due("has(" + k + ")", b.x.has(k), has[k]);
    for (int p = 0; p < 15; p++) b.pointerIs(p, 0, 0, 0, 0, 0, 0, 0, 0, 0);
    b.pointerIs(15, 1, 0, 0, 4096, 9, 0, 8, 7, 0);
    for (int place = 0; place < 4; place++) b.due("an empty place", b.x.shelf(0, place, 0), -1);
    for (int a = 0; a < 64; a++) b.due("octetAt(" + a + ")", b.x.octetAt(a), 0);
    b.due("undo", b.x.undo(), false);
    b.due("no trap is left", b.x.load(15), 0);
    b.due("no pads are left", b.x.alloc(1, 1) == 16 && b.x.object(0, 1) == 1, true);
    b.x.undo();
    // From 9 on two times by the seed are: nothing freed; then of the third the draws go on.
    b.x.chance(1);
    Bench other = new Bench("another object");
    other.machine(M + "shelf t kind 2;");
    other.x.seed(9);
    other.x.chance(2);
    other.machine(M + "shelf t kind 2;");
    other.x.chance(1);
    for (int p = 0; p < 16; p++) b.due("by the seed that stays", b.x.pointer(p, 3), other.x.pointer(p, 3));
  }

  private static void faultAndPlace() {
    b.about("Of the latest machine() or ask(): its FAULT (what 0; 0 without, and ahead of any), its place (1; NONE without)");
    b.due("ahead of any", b.x.fault(0), 0);
    b.due("ahead of any", b.x.fault(1), -1);
    b.due("a question without a machine does nothing else", b.ask("x"), Bench.NOTHING);
    b.due("ahead of any still", b.x.fault(0), 0);
    b.fails("memory 63", 2, 7);
    b.due("a question without a machine does nothing else", b.ask("total 1"), Bench.NOTHING);
    b.due("of the machine still", b.x.fault(0), 2);
    b.stands(M, 1);
    b.askFails("total )", 1, 6);
    b.answers("total 1", 16);
    b.askFails("total (((((((", 4, 12);
    b.stands(M, 1);
    b.fails(M + "pads 1;pads", 5, 28);
    b.see(1);
    b.on(1);
    b.due("neither by see() nor by on()", b.x.fault(0), 5);
    b.answers("total 1", 16);
  }

  private static void faultOfOthers() {
    b.about("NONE for another what.");
    for (int what : new int[] {-1, 2, Integer.MIN_VALUE, Integer.MAX_VALUE}) b.due("fault(" + what + ")", b.x.fault(what), -1);
    b.fails("memory 63", 2, 7);
    for (int what : new int[] {-1, 2, Integer.MIN_VALUE, Integer.MAX_VALUE}) b.due("fault(" + what + ")", b.x.fault(what), -1);
  }

  private static void letters() {
    b.about("Letter k (0 .. 5) of the NAME of a SHELF: 1 .. 26; 0 behind it; NONE when there is none such.");
    b.due("without a machine", b.x.letter(0, 0), -1);
    b.stands(M, 1);
    b.due("without a shelf", b.x.letter(0, 0), -1);
    b.stands(M + "shelf a kind 1;shelf zz kind 1;shelf abcyz kind 1;shelf azbycx kind 1;", 5);
    int[][] want = {{1, 0, 0, 0, 0, 0}, {26, 26, 0, 0, 0, 0}, {1, 2, 3, 25, 26, 0}, {1, 26, 2, 25, 3, 24}};
    for (int shelf = 0; shelf < 4; shelf++) {
      for (int k = 0; k < 6; k++) b.due("letter(" + shelf + ", " + k + ")", b.x.letter(shelf, k), want[shelf][k]);
      for (int k : new int[] {-1, 6, Integer.MIN_VALUE, Integer.MAX_VALUE}) b.due("letter(.., " + k + ")", b.x.letter(shelf, k), -1);
    }
    for (int shelf : new int[] {-1, 4, Integer.MIN_VALUE, Integer.MAX_VALUE}) b.due("letter(" + shelf + ", 0)", b.x.letter(shelf, 0), -1);
    b.stands(M + "shelf b kind 1;", 2);
    b.due("of a machine with fewer shelves", b.x.letter(1, 0), -1);
    b.due("of a shorter name", b.x.letter(0, 1), 0);
  }

  // ---- terms I: what stands

  /** No text has forty: four shelves and one of each other kind are eight. */
  private static void fortyAtMost() {
    b.about("A MACHINE is a text: { STATEMENT ; } (40 at most):");
    String eight = FOUR + "picks 1;pads 1;traps all;";
    b.stands(eight, 8);
    for (int at = 0; at < eight.length(); at++) {
      if (eight.charAt(at) != ';') continue;
      boolean last = at + 1 == eight.length();
      String without = eight.substring(0, at) + " " + eight.substring(at + 1);
      b.fails(without, 1, last ? without.length() : at + 1);
      b.fails(eight.substring(0, at) + ";" + eight.substring(at), 1, at + 1);
    }
    String[] more = {"shelf e kind 1;", "picks 1;", "pads 1;", "traps all;"};
    for (String statement : more) b.fails(eight + statement.repeat(33), 5, eight.length());
  }

  private static void memoryAndMantissa() {
    b.about("memory N mantissa N (64 .. 1024 bytes; 4 .. 8 bits;");
    for (int n : new int[] {64, 65, 1023, 1024}) {
      b.stands("memory " + n + " mantissa 4;", 1);
      b.due("has(0)", b.x.has(0), n);
    }
    for (int n : new int[] {0, 63, 1025, 9999}) b.fails("memory " + n + " mantissa 4;", 2, 7);
    for (int m = 4; m <= 8; m++) {
      b.stands("memory 64 mantissa " + m + ";", 1);
      b.due("has(1)", b.x.has(1), m);
    }
    for (int m : new int[] {0, 3, 9, 9999}) b.fails("memory 64 mantissa " + m + ";", 2, 19);
  }

  private static void theFirstStatementAlone() {
    b.about("the first STATEMENT, and it alone");
    b.fails("shelf a kind 1;" + M, 1, 0);
    b.fails("pads 1;" + M, 1, 0);
    b.fails(";" + M, 1, 0);
    b.fails(M + M, 1, AT);
    b.fails(M + "pads 1;memory", 1, AT + 7);
    b.fails("mantissa 4;", 1, 0);
  }

  private static void kinds() {
    b.about("shelf NAME kind N (1 .. 7; 4 SHELVES)");
    for (int kind = 1; kind <= 7; kind++) b.stands(M + "shelf a kind " + kind + ";", 2);
    for (int kind : new int[] {0, 8, 9999}) b.fails(M + "shelf a kind " + kind + ";", 2, AT + 13);
    b.stands(FOUR, 5);
    b.due("has(10)", b.x.has(10), 4);
    b.fails(FOUR + "shelf e kind 1;", 5, FOUR.length());
  }

  private static void formulas() {
    b.about("picks SUM, pads SUM, traps TEST (one each)");
    b.stands(M + "picks 1;pads 1;traps all;", 4);
    b.stands(M + "traps 1=1;picks 1;pads 1;", 4);
    b.fails(M + "picks all;", 1, AT + 6);
    b.fails(M + "pads 1<2;", 1, AT + 6);
    b.fails(M + "traps 1;", 1, AT + 7);
    b.fails(M + "picks;", 1, AT + 5);
    b.fails(M + "pads;", 1, AT + 4);
    b.fails(M + "traps;", 1, AT + 5);
  }

  private static void digits() {
    b.about("PART: N (1 to 4 digits)");
    for (String n : new String[] {"0", "9", "10", "99", "100", "999", "1000", "9999", "0000", "0001"}) b.stands(M + "picks " + n + ";", 2);
    b.fails(M + "picks 00000;", 1, AT + 10);
    b.fails(M + "picks 10000;", 1, AT + 10);
    b.fails(M + "picks ;", 1, AT + 6);
  }

  /** What a word alone is, where a PART is asked: itself, or what begins a part, or a fault at it. */
  private static void wordsOf(String statement, String tail, String right) {
    int at = AT + statement.length();
    String[][] all = {OWN, ASKING, {"box", "needs", "nee"}};
    for (String[] some : all) {
      for (String word : some) {
        String text = M + statement + word + tail;
        if ((" " + right + " ").contains(" " + word + " ")) b.stands(text, 2);
        else if (word.equals("min") || word.equals("max")) b.fails(text, 1, at + 3);
        else if (statement.equals("traps ") && (word.equals("all") || word.equals("not"))) b.fails(text, 1, at + 3);
        else b.fails(text, 1, at);
      }
    }
  }

  private static void wordsOfPads() {
    b.about("in picks, pads: need;");
    wordsOf("pads ", ";", "need");
  }

  private static void wordsOfPicks() {
    b.about("in picks: start; room;");
    wordsOf("picks ", ";", "need start room");
  }

  private static void wordsOfTraps() {
    b.about("in traps: at; base; length; perms.");
    wordsOf("traps ", "=1;", "at base length perms");
  }

  private static void names() {
    b.about("NAMES: 1 to 6 letters, no OWN WORD, unlike ones.");
    for (String name : new String[] {"a", "z", "ab", "abc", "abcd", "abcde", "abcdef", "zzzzzz"}) b.stands(M + "shelf " + name + " kind 1;", 2);
    b.fails(M + "shelf  kind 1;", 1, AT + 7);
    b.fails(M + "shelf abcdefg kind 1;", 1, AT + 12);
    b.fails(M + "shelf pads kind 1;", 1, AT + 6);
    b.stands(M + "shelf abcdef kind 1;shelf abcdeg kind 1;shelf bbcdef kind 1;shelf abcde kind 1;", 5);
    b.fails(M + "shelf abcdef kind 1;shelf abcdef kind 1;", 3, AT + 26);
    for (char c : "AZ@[`{_'".toCharArray()) b.fails(M + "shelf " + c + " kind 1;", 1, AT + 6);
    for (char c : "AZ@[`{_'".toCharArray()) b.fails(M + "shelf a" + c + " kind 1;", 1, AT + 7);
    b.fails(M + "shelf " + (char) 225 + " kind 1;", 1, AT + 6);
  }

  private static void ownWords() {
    b.about("OWN WORDS: memory, mantissa, shelf, kind, picks, pads, traps, need, start, room, at, base, length, perms, number,"
        + " exp, valid, from, fits, or, and, not, all, min, max.");
    for (String word : OWN) b.fails(M + "shelf " + word + " kind 1;", 1, AT + 6);
    for (String word : ASKING) b.stands(M + "shelf " + word + " kind 1;", 2);
    for (String word : OWN) {
      if (word.length() < 6) b.stands(M + "shelf " + word + "q kind 1;", 2);
      if (word.length() < 7) b.stands(M + "shelf " + word.substring(1) + " kind 1;", 2);
    }
  }

  private static final String ALL =
      "memory 64 mantissa 4;shelf ab kind 1;picks min(need,start)+(room);pads need*2/3-1;traps not[at<base or length>perms]and all;";

  private static void blanks() {
    b.about("Blanks (10, 32) are where one likes");
    b.stands(ALL, 5);
    String[] tokens = ALL.replaceAll("([;(),+*/<>\\[\\]-])", " $1 ").trim().split(" +");
    for (String blank : new String[] {" ", "\n", "\n\n  \n"}) b.stands(blank + String.join(blank, tokens) + blank, 5);
    for (int v = 0; v < 256; v++) {
      if (v % 64 == 0) b.fresh();
      char c = (char) v;
      String text = "memory" + c + "64 mantissa 4;";
      if (v == 10 || v == 32) b.stands(text, 1);
      else b.fails(text, 1, c >= 'a' && c <= 'z' ? 0 : 6);
      if (v == 10 || v == 32) b.stands(M + c, 1);
      else b.fails(M + c, 1, AT);
    }
  }

  private static void sideBySide() {
    b.about("(words and numbers side by side need one)");
    b.fails("memory64 mantissa 4;", 1, 6);
    b.fails("memory 64mantissa 4;", 1, 9);
    b.fails("memory 64 mantissa4;", 1, 18);
    b.fails(M + "shelfa kind 1;", 1, AT);
    b.fails(M + "shelf akind 1;", 1, AT + 12);
    b.fails(M + "shelf a kind1;", 1, AT + 12);
    b.fails(M + "shelf a1 kind 1;", 1, AT + 7);
    b.fails(M + "picks1;", 1, AT + 5);
    b.fails(M + "picks 1need;", 1, AT + 7);
    b.fails(M + "picks need1;", 1, AT + 10);
    b.fails(M + "traps 1<2or all;", 1, AT + 9);
    b.fails(M + "traps 1<2and all;", 1, AT + 9);
    b.fails(M + "traps all and1=1;", 1, AT + 13);
    b.fails(M + "traps not1=1;", 1, AT + 9);
    b.fails(M + "traps notall;", 1, AT + 6);
    // Numbers that are the bytes of signs are none.
    b.fails(M + "picks need43 1;", 1, AT + 10);
    b.fails(M + "traps all59", 1, AT + 9);
    b.fails(M + "picks need59", 1, AT + 10);
    b.stands(M + "picks(need)+min(1,2);traps[1=1]and[2=2]or not(1)=1;", 3);
  }

  // ---- terms I: faults

  private static void theFirstAlongTheText() {
    b.about("FAULTS, the first along the text");
    b.fails("memory 63 mantissa 9;", 2, 7);
    b.fails("memory 64 mantissa 9;x", 2, 19);
    b.fails("memory 63x mantissa 4;", 2, 7);
    b.fails(M + "x;shelf a kind 9;", 1, AT);
    b.fails(M + "shelf a kind 9;shelf a kind 1;", 2, AT + 13);
    b.fails(M + "shelf a kind 1;shelf a kind 9;", 3, AT + 21);
    b.fails(M + "pads (((((((;", 4, AT + 11);
    b.fails(M + "pads ((((((;", 1, AT + 11);
    b.fails(M + "pads 1;pads (((((((;", 5, AT + 7);
    b.fails(M + "pads (((((((1)))))));pads 1;", 4, AT + 11);
    b.fails(FOUR + "shelf a kind 9;", 5, FOUR.length());
    b.fails(FOUR + "shelf pads", 5, FOUR.length());
  }

  private static void wholeWords() {
    b.about("1 the first byte with which no such text goes on (words and numbers whole, at their first byte;");
    b.fails("m", 1, 0);
    b.fails("memor", 1, 0);
    b.fails("memoryy 64 mantissa 4;", 1, 0);
    b.fails("memory 64 mantisse 4;", 1, 10);
    b.fails("memory 64 mantissashelf 4;", 1, 10);
    b.fails("memory 64 mantissa" + "s".repeat(90) + " 4;", 1, 10);
    b.fails("memory 64 mantissa 4 55;", 1, 21);
    b.fails("memory 64 64 mantissa 4;", 1, 10);
    b.fails("64", 1, 0);
    b.fails(M + "pick 1;", 1, AT);
    b.fails(M + "pickss 1;", 1, AT);
    b.fails(M + "picks needed;", 1, AT + 6);
    b.fails(M + "picks 1 1234;", 1, AT + 8);
    b.fails(M + "picks 1 12345;", 1, AT + 8);
    b.fails(M + "traps alle;", 1, AT + 6);
    b.fails(M + "traps all ore all;", 1, AT + 10);
    b.fails(M + "traps 1==1;", 1, AT + 8);
    b.fails(M + "picks 1**1;", 1, AT + 8);
    b.fails(M + "picks -1;", 1, AT + 6);
    b.fails(M + "picks min(1;", 1, AT + 11);
    b.fails(M + "picks (1,2);", 1, AT + 8);
    b.fails(M + "picks ();", 1, AT + 7);
    b.fails(M + "traps [1]=1;", 1, AT + 8);
    b.fails(M + "traps [all);", 1, AT + 10);
    b.fails(M + "traps (all);", 1, AT + 7);
    b.fails(M + "traps not;", 1, AT + 9);
    for (String sign : new String[] {"+", "-", "*", "/"}) {
      b.fails(M + "picks 1" + sign + ";", 1, AT + 8);
      b.fails(M + "picks 1" + sign + "1" + sign + ";", 1, AT + 10);
      b.fails(M + "picks " + sign + "1;", 1, AT + 6);
    }
    for (String sign : new String[] {"<", ">", "="}) {
      b.fails(M + "traps 1" + sign + ";", 1, AT + 8);
      b.fails(M + "traps " + sign + "1;", 1, AT + 6);
    }
    b.fails(M + "traps all and;", 1, AT + 13);
    b.fails(M + "traps all or;", 1, AT + 12);
    b.fails(M + "traps and all;", 1, AT + 6);
    b.fails(M + "traps [];", 1, AT + 7);
    b.fails(M + "picks min(,1);", 1, AT + 10);
    b.fails(M + "picks min(1,);", 1, AT + 12);
    b.fails(M + "picks max(1,2;", 1, AT + 13);
  }

  private static void ownWordsAsNames() {
    b.about("where a NAME is asked, an OWN WORD so,");
    b.fails(M + "shelf max kind 1;", 1, AT + 6);
    // It has a seventh letter, too, but further along the text.
    b.fails(M + "shelf mantissa kind 1;", 1, AT + 6);
    b.fails(M + "shelf max", 1, AT + 6);
  }

  private static void aSeventhLetter() {
    b.about("a 7th letter at itself;");
    b.fails(M + "shelf abcdefg", 1, AT + 12);
    b.fails(M + "shelf  abcdefgh kind 1;", 1, AT + 13);
    b.fails(M + "shelf memoryx kind 1;", 1, AT + 12);
    b.fails(M + "shelf mantiss kind 1;", 1, AT + 12);
    b.fails(M + "shelf mantissas kind 1;", 1, AT + 12);
    b.fails(M + "shelf abcdef kind 1;shelf abcdefg kind 1;", 1, AT + 32);
  }

  private static void aFifthDigit() {
    b.about("where a number is asked, a 5th digit at itself;");
    b.fails("memory 00064 mantissa 4;", 1, 11);
    b.fails("memory 10240 mantissa 4;", 1, 11);
    b.fails("memory 640000000000000000 mantissa 4;", 1, 11);
    b.fails("memory 64 mantissa 00004;", 1, 23);
    b.fails(M + "shelf a kind 00001;", 1, AT + 17);
    b.fails(M + "picks 1+99999;", 1, AT + 12);
    b.fails(M + "picks 99999", 1, AT + 10);
    b.stands("memory 0064 mantissa 0004;shelf a kind 0007;", 2);
  }

  private static void endingTooSoon() {
    b.about("at the text's length, if it ends too soon);");
    for (int n = 0; n <= ALL.length(); n++) {
      if (n % 40 == 0) b.fresh();
      String text = ALL.substring(0, n);
      int from = n;
      while (from > 0 && Character.isLetter(text.charAt(from - 1))) from--;
      boolean cut = from < n && n < ALL.length() && Character.isLetter(ALL.charAt(n));
      boolean inTheName = from == ALL.indexOf("ab");
      if (text.endsWith(";")) b.stands(text, text.split(";").length);
      else if (text.equals("memory 6")) b.fails(text, 2, 7);
      else b.fails(text, 1, cut && !inTheName ? from : n);
    }
    b.fails("memory 64 mantissa 4 \n ", 1, 23);
  }

  private static void numbersThatCannotBe() {
    b.about("2 a number that can't be, at it;");
    b.fails("memory 63", 2, 7);
    b.fails("memory \n 1025", 2, 9);
    b.fails("memory 0063 mantissa 4;", 2, 7);
    b.fails("memory 64 mantissa 3", 2, 19);
    b.fails("memory 64 mantissa 9", 2, 19);
    b.fails("memory 1024 mantissa 0;", 2, 21);
    b.fails(M + "shelf a kind 0", 2, AT + 13);
    b.fails(M + "shelf a kind 8", 2, AT + 13);
    b.fails(M + "shelf a kind 0x", 2, AT + 13);
  }

  private static void namesThatAreThere() {
    b.about("3 a NAME that is there already, at it;");
    String three = M + "shelf one kind 1;shelf b kind 2;shelf sixsix kind 3;";
    for (String name : new String[] {"one", "b", "sixsix"}) {
      b.fails(three + "shelf " + name, 3, three.length() + 6);
      b.fails(three + "shelf\n  " + name + " kind 1;", 3, three.length() + 8);
    }
    for (String name : new String[] {"on", "bb", "sixsi", "onee", "sixsiy"}) b.stands(three + "shelf " + name + " kind 1;", 5);
    b.stands(M + "shelf one kind 1;", 2);
    b.stands(M + "shelf one kind 1;", 2);
  }

  /** Facts may open [ and not, then sums ( and min( : as many of the first, and so many in all. */
  private static String opened(int facts, int all, String fact, String sum) {
    StringBuilder s = new StringBuilder(M + "traps ");
    for (int i = 0; i < all; i++) s.append(i < facts ? fact : sum);
    s.append('1');
    for (int i = facts; i < all; i++) s.append(sum.startsWith("m") ? ",1)" : ")");
    s.append("=1");
    for (int i = 0; i < facts; i++) s.append(fact.equals("[") ? "]" : "");
    return s.append(';').toString();
  }

  private static void sevenOpen() {
    b.about("4 the 7th of ( [ not that is open at once");
    for (String fact : new String[] {"[", "not "}) {
      for (String sum : new String[] {"(", "min(", "max("}) {
        b.fresh();
        for (int facts = 0; facts <= 7; facts++) {
          if (facts <= 6) b.stands(opened(facts, 6, fact, sum), 2);
          int place = AT + 6 + Math.min(6, facts) * fact.length() + Math.max(0, 6 - facts) * sum.length();
          b.fails(opened(facts, 7, fact, sum), 4, facts == 7 ? place : place + sum.length() - 1);
        }
      }
    }
    b.stands(M + "pads ((((((1))))))+((((((1))))));picks ((((((1))))));traps [[[[[[all]]]]]]or[[[[[[all]]]]]];", 4);
    b.stands(M + "traps (((((1)))))+min((((((1))))),1)=((((((1))))));", 2);
    b.fails(M + "pads ((((((1))))))+((((((min(1,1)))))));", 4, AT + 28);
    b.fails(M + "pads ((((((1+(1)))))));", 4, AT + 13);
    b.stands(M + "pads min(1,(((((1))))));", 2);
    b.fails(M + "pads min(1,((((((1)))))));", 4, AT + 16);
    b.fails(M + "pads max((((((1))))),((((((1)))))));", 4, AT + 26);
    // Where none is asked it is a fault of the first kind.
    b.fails(M + "pads ((((((1(", 1, AT + 12);
    b.fails(M + "pads (((((([", 1, AT + 11);
    b.fails(M + "pads ((((((not", 1, AT + 11);
    b.fails(M + "pads ((((((min", 1, AT + 14);
  }

  private static void notUntilItsFactEnds() {
    b.about("(not until its FACT ends), at it;");
    b.stands(M + "traps not not not not not not all and not not not not not not all;", 2);
    b.stands(M + "traps not not not not not not all or [[[[[[1=1]]]]]]or all;", 2);
    b.stands(M + "traps not[all]and[[[[[[all]]]]]];", 2);
    b.stands(M + "traps not 1=1 and ((((((1))))))=1;", 2);
    b.stands(M + "traps not(((((1)))))=(((((1)))));", 2);
    b.fails(M + "traps not((((((1))))))=1;", 4, AT + 14);
    b.fails(M + "traps not 1=((((((1))))));", 4, AT + 17);
    b.fails(M + "traps not[[[[[all or [all]]]]]];", 4, AT + 21);
    b.fails(M + "traps not not not not not not not", 4, AT + 30);
    b.fails(M + "traps [not[not[not not all]]];", 4, AT + 19);
  }

  private static void oneTooMany() {
    b.about("5 one too many of a kind (a second picks, pads, traps, too), a 41st STATEMENT (whatever stands there), at its first byte.");
    for (String again : new String[] {"picks", "pads", "traps"}) {
      String text = M + "picks 1;pads 1;traps all;";
      b.fails(text + again, 5, text.length());
      b.fails(text + "\n " + again + " 1=1;", 5, text.length() + 2);
      b.fails(text + again + "7", 5, text.length());
      b.fails(text + again + "s", 1, text.length());
    }
    b.fails(FOUR + "shelf", 5, FOUR.length());
    b.fails(FOUR + "\n shelf e kind 1;", 5, FOUR.length() + 2);
    // Eight statements are the most that can be: a ninth is one too many of its kind, or none at all.
    String eight = FOUR + "picks 1;pads 1;traps all;";
    b.stands(eight, 8);
    for (String word : OWN) {
      boolean again = "shelf picks pads traps".contains(word);
      b.fails(eight + word, again ? 5 : 1, eight.length());
    }
    b.fails(eight + ";", 1, eight.length());
  }
}
