/** Promise 41: ask. */
public final class QuestionTest {
  private static final Bench b = new Bench("QuestionTest");

  public static void main(String[] args) {
    withoutAMachine();
    parts();
    numbers();
    tests();
    faults();
    noPlaceOfAShelf();
    b.ends();
  }

  private static void withoutAMachine() {
    b.fresh();
    b.fails("x", 1, 0);
    b.due("without a machine", b.ask("total 1"), Bench.NOTHING);
    b.due("the fault stays", b.x.fault(0), 1);
    b.due("its place stays", b.x.fault(1), 0);
    b.due("the tape is gone", b.x.end(1), false);
  }

  /** 0: 16 .. 26 by E 1; 1: 26 .. 29, at 28; 2: sealed by 3; 15 at 3. */
  private static void parts() {
    b.machine("memory 128 mantissa 4;");
    b.x.alloc(0, 10);
    b.x.alloc(1, 3);
    b.x.move(1, 2);
    b.x.copy(1, 2);
    b.x.move(15, 3);
    b.x.seal(2, 15);
    b.answers("total number", 120);
    b.answers("total at", 16 + 28 + 28 + 3);
    b.answers("total base", 16 + 26 + 26);
    b.answers("total length", 10 + 3 + 3 + 4096);
    b.answers("total exp", 1 + 9);
    b.answers("total kind", 3);
    b.answers("total perms", 3 + 3 + 3 + 7);
    b.answers("total valid", 4);
    b.answers("total from 0", 16 * 16);
    b.answers("most from number", 26);
    b.answers("total from 16", 0);
    b.answers("total from(0-1)", 0);
    b.answers("most from(from 0-15)", 26);
    b.answers("total from 1+1", 16 * 27);
    // 0 from 16 on to 39, 1 and 2 from 28 on to 37, those that never were from 0 on to 11, 15 all.
    b.answers("total fits 9", 16);
    b.answers("total fits 10", 14);
    b.answers("total fits 11", 14);
    b.answers("total fits 12", 2);
    b.answers("total fits 23", 2);
    b.answers("total fits 24", 1);
    b.answers("first fits 24=1", 15);
    b.answers("total fits 4095", 16);
    b.answers("total fits 4096", 0);
    b.answers("total fits(0-4095)", 16);
    b.answers("total fits(0-4090)", 16);
    b.answers("total fits(0-4085)", 14);
    b.answers("total fits(0-4096)", 0);
    b.answers("total fits fits 5", 16);
  }

  private static void noPlaceOfAShelf() {
    b.machine("memory 64 mantissa 4;shelf a kind 3;");
    b.x.alloc(0, 4);
    b.x.move(15, 3);
    b.x.seal(0, 15);
    b.x.shelve(0, 0);
    b.answers("most from 16", 0);
    b.answers("often kind=3", 1);
    b.answers("total valid", 2);
  }

  private static void numbers() {
    b.answers("total 7", 112);
    b.answers("total 2+3*4", 16 * 14);
    b.answers("total (2+3)*4", 16 * 20);
    b.answers("most 10-3-2", 5);
    b.answers("most 100/7/2", 7);
    b.answers("most 7/2*2", 6);
    b.answers("most (0-7)/2", -4);
    b.answers("most 7/(0-2)", -4);
    b.answers("most (0-7)/(0-2)", 3);
    b.answers("most 5/0", 0);
    b.answers("most 1000*1000", 1000000);
    b.answers("most 1001*1000", 1000000);
    b.answers("most 1001*1000-1", 999999);
    b.answers("least 0-1001*1000", -1000000);
    b.answers("least 0-1000*1000-1", -1000000);
    b.answers("least 0-1000*1000-1+2", -999998);
    b.answers("most 9999*9999*9999", 1000000);
    b.answers("most 1000*1000/3", 333333);
    b.answers("total 9999*9999", 16000000);
    b.answers("total 0-9999*9999", -16000000);
    b.answers("least number-8", -8);
    b.answers("most number-8", 7);
    b.answers("least 3", 3);
    b.answers("most 0-3", -3);
    b.answers("most min(number,5)", 5);
    b.answers("least max ( number , 5 )", 5);
    b.answers(" \nmost\nmin(max(1,2),max(3,4))  ", 2);
  }

  private static void tests() {
    b.answers("first all", 0);
    b.answers("last all", 15);
    b.answers("often all", 16);
    b.answers("first not all", -1);
    b.answers("last not all", -1);
    b.answers("often not all", 0);
    b.answers("first number>5", 6);
    b.answers("last number<5", 4);
    b.answers("often number=5", 1);
    b.answers("often number<5 or number>10", 10);
    b.answers("often number>5 and number<10", 4);
    b.answers("often number<2 or number<9 and number>6", 4);
    b.answers("often [number<2 or number<9] and number>6", 2);
    b.answers("often not number<2", 14);
    b.answers("often not number<2 and number<5", 3);
    b.answers("often not[number<2 and number<5]", 14);
    b.answers("often not not number<2", 2);
    b.answers("often number-number/2*2=0", 8);
    b.answers("first valid=0", 3);
    b.answers("last kind>0", 2);
    b.answers("often[[[[[[all]]]]]]", 16);
    b.answers("often not not not[[[all]]]", 0);
    b.answers("most((((((7))))))", 7);
    b.answers("most fits fits fits from from from 1", 1);
  }

  private static void faults() {
    b.askFails("", 1, 0);
    b.askFails("  ", 1, 2);
    b.askFails("total", 1, 5);
    b.askFails("totals 1", 1, 0);
    b.askFails("sum 1", 1, 0);
    b.askFails("valid", 1, 0);
    b.askFails("1", 1, 0);
    b.askFails("total1", 1, 5);
    b.askFails("total need", 1, 6);
    b.askFails("total room", 1, 6);
    b.askFails("total start", 1, 6);
    b.askFails("total first", 1, 6);
    b.askFails("total all", 1, 6);
    b.askFails("total 1;", 1, 7);
    b.askFails("total 1 2", 1, 8);
    b.askFails("total 1<2", 1, 7);
    b.askFails("total from", 1, 10);
    b.askFails("total from+1", 1, 10);
    b.askFails("total fits1", 1, 10);
    b.askFails("total 12345", 1, 10);
    b.askFails("total -1", 1, 6);
    b.askFails("first 1", 1, 7);
    b.askFails("first 1+1", 1, 9);
    b.askFails("first all or", 1, 12);
    b.askFails("first (all)", 1, 7);
    b.askFails("first [1]", 1, 8);
    b.askFails("first [all)", 1, 10);
    b.askFails("first all)", 1, 9);
    b.askFails("first all\t", 1, 9);
    b.askFails("total Number", 1, 6);
    b.askFails("total (((((((1)))))))", 4, 12);
    b.askFails("total from from from fits fits fits fits 1", 4, 36);
    b.askFails("total from from from fits(fits(fits(1", 4, 30);
    b.askFails("first not not not[[fits(1)=1]]", 4, 23);
    b.askFails("first not not not[[from 1=from(2)]]", 4, 30);
    b.due("from and fits end with their part", b.ask("first not not not[[from 1=from 0]]"), 0);
    b.due("nothing else is refused", b.x.status(7), 0);
  }
}
