/** Promises 1 to 5 and 7: a new object, feed, end, machine, fault, letter. */
public final class TapeAndMachineTest {
  private static final String M = "memory 64 mantissa 4;";
  private static final Bench b = new Bench("TapeAndMachineTest");

  public static void main(String[] args) {
    aNewObject();
    tape();
    rightMachines();
    wrongBytes();
    wrongNumbersAndNames();
    tooManyOpen();
    tooManyOfAKind();
    whatAMachineChanges();
    letters();
    b.ends();
  }

  private static void aNewObject() {
    b.fresh();
    for (int i = 0; i <= 10; i++) b.due("has(" + i + ") of a new object", b.x.has(i), 0);
    for (int i = 0; i < 16; i++) b.due("pointer of a new object", b.x.pointer(i, 0), -1);
    for (int i = 0; i < 8; i++) b.due("status of a new object", b.x.status(i), 0);
    b.due("fault ahead of any", b.x.fault(0), 0);
    b.due("its place ahead of any", b.x.fault(1), -1);
    b.due("fault(2)", b.x.fault(2), -1);
    b.due("fault(-1)", b.x.fault(-1), -1);
  }

  private static void tape() {
    b.fresh();
    for (int i = 1; i <= 80; i++) b.due("feed", b.x.feed(i, 0, 0, 0, -1), 20 * i);
    b.due("feed of more than 1600", b.x.feed(1, 2, 3, 4, 5), -1);
    b.due("status(0)", b.x.status(0), 1);
    b.due("end(1601)", b.x.end(1601), false);
    b.due("end(-1)", b.x.end(-1), false);
    b.due("status(0)", b.x.status(0), 3);
    b.due("end(1600)", b.x.end(1600), true);
    b.due("end(1581)", b.x.end(1581), true);
    b.due("feed behind 1581", b.x.feed(1, 2, 3, 4, 5), -1);
    b.due("end(1580)", b.x.end(1580), true);
    b.due("feed behind 1580", b.x.feed(1, 2, 3, 4, 5), 1600);
    b.due("end(0)", b.x.end(0), true);
    b.due("end(1) of nothing", b.x.end(1), false);
    b.due("feed", b.x.feed(0x6d656d6f, 0x72792036, 0x34206d61, 0x6e746973, 0x73612038), 20);
    b.due("feed", b.x.feed(0x3bffffff, 0, 0, 0, 0), 40);
    b.due("end", b.x.end(21), true);
    b.due("machine, the highest bytes first", b.x.machine(), 1);
    b.due("end(1) when the tape is gone", b.x.end(1), false);
  }

  private static void rightMachines() {
    b.stands(M, 1);
    b.stands("\n memory\n0064 mantissa 8 ; \n", 1);
    b.due("has(0)", b.x.has(0), 64);
    b.due("has(1)", b.x.has(1), 8);
    b.stands("memory 1024 mantissa 4;", 1);
    b.stands(M + "shelf a kind 1;shelf b kind 7;shelf first kind 7;shelf abcdef kind 3;", 5);
    b.stands(M + "shelf abcdef kind 1;shelf abcdeg kind 1;shelf abcde kind 1;shelf bbcdef kind 1;", 5);
    b.stands(M + "picks need+start*room;pads need;traps at<base or length>perms;", 4);
    b.stands(M + "traps not[all and not all]or 1=2;pads min(1,max(2,need));picks(1);", 4);
    b.stands(M + "traps[[[[[[all]]]]]];", 2);
    b.stands(M + "traps not not not not not not all and not not not not not not all;", 2);
    b.stands(M + "pads ((((((1))))))+((((((2))))));", 2);
    b.stands(M + "pads min(min(min(min(min(min(1,2),3),4),5),6),7);", 2);
    b.stands(M + "pads 9999*0000;", 2);
    b.stands(M + "traps not[min(max(1,((2))),3)<1];", 2);
  }

  private static void wrongBytes() {
    b.fresh();
    b.fails("", 1, 0);
    b.fails("  \n", 1, 3);
    b.fails(";", 1, 0);
    b.fails("shelf a kind 1;", 1, 0);
    b.fails("memory", 1, 6);
    b.fails("memory ", 1, 7);
    b.fails("memory64 mantissa 4;", 1, 6);
    b.fails("memory 64mantissa 4;", 1, 9);
    b.fails("memory 64 mantissa4;", 1, 18);
    b.fails("memory 64 mantissa 4", 1, 20);
    b.fails("memory 64 mantissa 4 ", 1, 21);
    b.fails("memory 64 mantissa 4 5;", 1, 21);
    b.fails("Memory 64 mantissa 4;", 1, 0);
    b.fails("memoryx 64 mantissa 4;", 1, 0);
    b.fails("memor 64 mantissa 4;", 1, 0);
    b.fails("memory x mantissa 4;", 1, 7);
    b.fails("memory 64 64 mantissa 4;", 1, 10);
    b.fails("memory\t64 mantissa 4;", 1, 6);
    b.fails("memory 64 mantissa 4;\r", 1, 21);
    b.fails(M + (char) 200, 1, 21);
    b.fails(M + M, 1, 21);
    b.fails(M + ";", 1, 21);
    b.fails(M + "pad 1;", 1, 21);
    b.fails(M + "pads;", 1, 25);
    b.fails(M + "pads 1", 1, 27);
    b.fails(M + "pads 1 1;", 1, 28);
    b.fails(M + "pads +1;", 1, 26);
    b.fails(M + "pads 1+;", 1, 28);
    b.fails(M + "pads 1<2;", 1, 27);
    b.fails(M + "pads all;", 1, 26);
    b.fails(M + "pads from 1;", 1, 26);
    b.fails(M + "pads room;", 1, 26);
    b.fails(M + "pads (1;", 1, 28);
    b.fails(M + "pads 1);", 1, 27);
    b.fails(M + "pads min 1;", 1, 30);
    b.fails(M + "pads min(1);", 1, 31);
    b.fails(M + "pads min(1,2,3);", 1, 33);
    b.fails(M + "pads 5need;", 1, 27);
    b.fails(M + "pads need5;", 1, 30);
    b.fails(M + "pads 12345;", 1, 30);
    b.fails(M + "pads 1 12345;", 1, 28);
    b.fails(M + "picks perms;", 1, 27);
    b.fails(M + "traps all all;", 1, 31);
    b.fails(M + "traps 1;", 1, 28);
    b.fails(M + "traps 1<2<3;", 1, 30);
    b.fails(M + "traps 1<2and all;", 1, 30);
    b.fails(M + "traps (1<2);", 1, 29);
    b.fails(M + "traps [1<2;", 1, 31);
    b.fails(M + "traps not;", 1, 30);
    b.fails(M + "traps valid=1;", 1, 27);
    b.fails(M + "shelf", 1, 26);
    b.fails(M + "shelf 5 kind 1;", 1, 27);
    b.fails(M + "shelf a 1;", 1, 29);
    b.fails(M + "shelf a kind;", 1, 33);
    b.fails(M + "shelf a1 kind 1;", 1, 28);
    b.fails(M + "shelf a_b kind 1;", 1, 28);
    b.fails(M + "shelf max kind 1;", 1, 27);
    b.fails(M + "shelf mantissa kind 1;", 1, 27);
    b.fails(M + "shelf abcdefg kind 1;", 1, 33);
    b.fails(M + "shelf mantissas kind 1;", 1, 33);
    b.due("status(1)", b.x.status(1), 60);
    b.due("has(0): none stands", b.x.has(0), 0);
  }

  private static void wrongNumbersAndNames() {
    b.fails("memory 63 mantissa 4;", 2, 7);
    b.fails("memory  1025", 2, 8);
    b.fails("memory 0", 2, 7);
    b.fails("memory 64 mantissa 3;", 2, 19);
    b.fails("memory 64 mantissa 9;", 2, 19);
    b.fails("memory 00064 mantissa 4;", 1, 11);
    b.fails("memory 63x", 2, 7);
    b.fails(M + "shelf a kind 0;", 2, 34);
    b.fails(M + "shelf a kind 8;", 2, 34);
    b.fails(M + "shelf a kind 1;shelf a kind 2;", 3, 42);
    b.fails(M + "shelf ab kind 1;shelf a kind 1;shelf ab", 3, 58);
    b.fails(M + "shelf abcdef kind 1;shelf b kind 1;shelf abcdef", 3, 62);
    b.fails(M + "shelf abcdef kind 1;shelf b kind 1;shelf c kind 1;shelf abcdef", 3, 77);
    b.fails(M + "shelf memory kind 1;", 1, 27);
  }

  private static void tooManyOpen() {
    b.fails(M + "pads (((((((1)))))));", 4, 32);
    b.fails(M + "pads ((((((min(1,2)))))));", 4, 35);
    b.fails(M + "pads ((((((1))))))+(((((((", 4, 46);
    b.fails(M + "traps [[[[[[[all]]]]]]];", 4, 33);
    b.fails(M + "traps not not not not not not not all;", 4, 51);
    b.fails(M + "traps not not not[[[(1)=1]]];", 4, 41);
    b.fails(M + "traps not not not [not 1=1 and ((1))=1 and [(((1)))=1]];", 4, 66);
  }

  private static void tooManyOfAKind() {
    String four = M + "shelf a kind 1;shelf b kind 1;shelf c kind 1;shelf d kind 1;";
    b.stands(four, 5);
    b.fails(four + "shelf", 5, 81);
    b.fails(four + " shelf max", 5, 82);
    b.fails(four + "shel", 1, 81);
    b.fails(M + "pads 1;pads 2;", 5, 28);
    b.fails(M + "picks 1;pads 2;picks", 5, 36);
    b.fails(M + "traps all; traps;", 5, 32);
    b.stands(four + "picks 1;pads 1;traps all;", 8);
  }

  private static void whatAMachineChanges() {
    b.fresh();
    b.machine("memory 64 mantissa 4;shelf s kind 3;");
    b.x.alloc(0, 8);
    b.x.store(0, 5);
    b.x.seed(9);
    b.see(64, 1);
    b.x.image();
    b.fails(M + "x", 1, 21);
    b.due("objects stay by a fault", b.x.has(3), 1);
    b.due("bytes stay by a fault", b.x.octetAt(16), 5);
    b.due("acts stay by a fault", b.x.has(9), 2);
    b.due("shelves stay by a fault", b.x.has(10), 1);
    b.due("a question's fault", b.ask("total x"), Bench.NOTHING);
    b.due("a machine, then", b.machine("memory 128 mantissa 5;"), 1);
    b.due("no fault then", b.x.fault(0), 0);
    b.due("memory", b.x.has(0), 128);
    b.due("objects", b.x.has(3), 0);
    b.due("kept", b.x.has(7), 0);
    b.due("seen", b.x.has(8), 0);
    b.due("acts", b.x.has(9), 0);
    b.due("shelves", b.x.has(10), 0);
    b.due("byte", b.x.octetAt(16), 0);
    b.due("undo", b.x.undo(), false);
    b.pointerIs(0, 0, 0, 0, 0, 0, 0, 0, 0, 0);
    b.pointerIs(15, 1, 0, 0, 4096, 8, 0, 16, 7, 0);
    // The seed stays 9.
    b.x.chance(12);
    Bench c = new Bench("another object");
    c.machine("memory 128 mantissa 5;");
    c.x.seed(9);
    c.x.chance(12);
    for (int i = 0; i < 16; i++) b.due("by the seed", b.x.pointer(i, 1), c.x.pointer(i, 1));
  }

  private static void letters() {
    b.machine(M + "shelf z kind 1;shelf abcxyz kind 2;");
    int[] first = {26, 0, 0, 0, 0, 0};
    int[] second = {1, 2, 3, 24, 25, 26};
    for (int k = 0; k < 6; k++) {
      b.due("letter(0, " + k + ")", b.x.letter(0, k), first[k]);
      b.due("letter(1, " + k + ")", b.x.letter(1, k), second[k]);
    }
    b.due("letter(0, 6)", b.x.letter(0, 6), -1);
    b.due("letter(0, -1)", b.x.letter(0, -1), -1);
    b.due("letter(2, 0)", b.x.letter(2, 0), -1);
    b.due("letter(-1, 0)", b.x.letter(-1, 0), -1);
  }
}
