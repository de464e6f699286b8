/** Promises 20 to 22, 26 and 27: room, odds, share, alloc, free. */
public final class HeapTest {
  private static final Bench b = new Bench("HeapTest");

  public static void main(String[] args) {
    room();
    padding();
    picking();
    shares();
    allocating();
    thirtyTwo();
    freeing();
    bytesAreNone();
    b.ends();
  }

  private static void room() {
    b.machine("memory 64 mantissa 4;");
    b.due("room(1)", b.x.room(1), 16);
    b.due("room(0)", b.x.room(0), -1);
    b.due("room(-5)", b.x.room(-5), -1);
    b.due("room(1025)", b.x.room(1025), -1);
    b.due("room(48)", b.x.room(48), 16);
    b.due("room(49)", b.x.room(49), -1);
    // 1 .. 48 have room: 33 .. 40 and 41 .. 48 by eights.
    b.due("odds()", b.x.odds(), 48);
    b.x.alloc(0, 1);
    // From 17 on, 47 bytes: those of 41 and more are rounded to 48 and begin at 24 at the least.
    b.due("room(8)", b.x.room(8), 17);
    b.due("room(9)", b.x.room(9), 18);
    b.due("room(17)", b.x.room(17), 20);
    b.due("room(33)", b.x.room(33), 24);
    b.due("room(40)", b.x.room(40), 24);
    b.due("room(41)", b.x.room(41), -1);
    b.due("odds()", b.x.odds(), 40);
    b.due("nothing is allocated by asking", b.x.has(3), 1);
    b.due("nothing is refused by asking", b.x.status(2), 0);
    b.machine("memory 1024 mantissa 8;");
    b.due("room(1008)", b.x.room(1008), 16);
    b.due("room(1009)", b.x.room(1009), -1);
    b.due("odds()", b.x.odds(), 100);
  }

  private static void padding() {
    b.machine("memory 1024 mantissa 8;pads need/2-10;");
    b.due("alloc", b.x.alloc(0, 10), 16);
    b.due("below 0 is 0", b.x.object(0, 1), 10);
    b.due("alloc", b.x.alloc(1, 40), 26);
    b.due("padded", b.x.object(1, 1), 50);
    b.due("asked for", b.x.object(1, 2), 40);
    b.due("alloc", b.x.alloc(2, 300), 76);
    b.due("above 99 is 99, rounded to fours", b.x.object(2, 1), 400);
    b.machine("memory 1024 mantissa 8;pads 9999;");
    b.x.alloc(0, 1);
    b.due("99 at the most", b.x.object(0, 1), 100);
    b.machine("memory 64 mantissa 4;pads 0-9999*9999;");
    b.x.alloc(0, 5);
    b.due("far below 0", b.x.object(0, 1), 5);
  }

  /** Holes at 24 (8 bytes), 36 (12), 52 (76). */
  private static void holes(String picks) {
    b.machine("memory 128 mantissa 8;" + picks);
    int[] bytes = {8, 8, 4, 12, 4};
    for (int i = 0; i < 5; i++) b.x.alloc(i, bytes[i]);
    b.x.free(1);
    b.x.free(3);
  }

  private static void picking() {
    holes("");
    b.due("the first", b.x.room(5), 24);
    b.due("the first with room", b.x.room(9), 36);
    b.due("the first with room", b.x.room(13), 52);
    // The five go one behind another whatever is picked, as there is one hole then.
    holes("picks 0-start;");
    b.due("the last", b.x.room(5), 52);
    holes("picks 0-room;");
    b.due("the longest", b.x.room(5), 52);
    holes("picks room;");
    b.due("the shortest", b.x.room(9), 36);
    holes("picks 7;");
    b.due("of like ones the first", b.x.room(5), 24);
    holes("picks max(room-need,need-room)*(room/need-2);");
    // Need 5: holes of 8, 12, 76: 3*-1 = -3, 7*0 = 0, 71*13.
    b.due("the least", b.x.room(5), 24);
    // Need 7: 1*-1, 5*-1 = -5, 69*8.
    b.due("the least", b.x.room(7), 36);
    holes("picks start/0-room/12*5+room/13*9;");
    // 0 - 0 + 0, 0 - 1*5 + 0, 0 - 6*5 + 5*9.
    b.due("by 0 it gives 0", b.x.room(2), 36);
    // In picks need is the length as rounded, in pads as asked for.
    b.machine("memory 128 mantissa 4;pads (need-9)*5;picks (need-10)*start;");
    b.due("alloc", b.x.alloc(0, 8), 16);
    b.due("alloc", b.x.alloc(1, 12), 24);
    b.due("its length", b.x.object(1, 1), 28);
    b.due("alloc", b.x.alloc(2, 8), 52);
    b.x.free(1);
    b.due("room(9)", b.x.room(9), 24);
    b.due("room(8)", b.x.room(8), 60);
  }

  private static void shares() {
    b.machine("memory 116 mantissa 8;pads 1;");
    b.due("share(0)", b.x.share(0), 0);
    b.due("share(1) without objects", b.x.share(1), 0);
    b.x.alloc(0, 2);
    b.due("share(0)", b.x.share(0), 3);
    b.due("share(1)", b.x.share(1), 33);
    b.x.alloc(1, 28);
    b.due("share(0)", b.x.share(0), 32);
    b.due("share(1)", b.x.share(1), 6);
    b.due("share(2)", b.x.share(2), -1);
    b.due("share(-1)", b.x.share(-1), -1);
    b.machine("memory 64 mantissa 8;");
    b.x.alloc(0, 47);
    b.due("not above", b.x.share(0), 97);
  }

  private static void allocating() {
    b.fresh();
    b.due("without a machine", b.x.alloc(0, 1), -1);
    b.machine("memory 64 mantissa 4;");
    b.due("alloc(16, 1)", b.x.alloc(16, 1), -1);
    b.due("alloc(-1, 1)", b.x.alloc(-1, 1), -1);
    b.due("alloc(0, 0)", b.x.alloc(0, 0), -1);
    b.due("alloc(0, 1025)", b.x.alloc(0, 1025), -1);
    b.due("alloc(0, 49)", b.x.alloc(0, 49), -1);
    b.due("status(2)", b.x.status(2), 6);
    b.due("no act", b.x.has(9), 0);
    // Whatever it was: sealed, moved, the one of all.
    b.x.copy(15, 0);
    b.x.move(0, 2);
    b.x.copy(0, 1);
    b.x.seal(1, 0);
    b.due("alloc over a sealed one", b.x.alloc(1, 9), 16);
    b.pointerIs(1, 1, 16, 16, 10, 1, 8, 13, 3, 0);
    b.due("alloc over 15", b.x.alloc(15, 3), 26);
    b.pointerIs(15, 1, 26, 26, 3, 0, 10, 13, 3, 0);
    b.due("alloc over itself", b.x.alloc(15, 3), 29);
    b.due("objects", b.x.has(3), 3);
    b.due("one is valid still", b.x.pointer(1, 0), 1);
  }

  private static void thirtyTwo() {
    b.machine("memory 1024 mantissa 8;");
    for (int i = 0; i < 32; i++) b.due("alloc", b.x.alloc(0, 2), 16 + 2 * i);
    b.due("a 33rd", b.x.alloc(0, 2), -1);
    b.due("room(1)", b.x.room(1), -1);
    b.due("odds()", b.x.odds(), 0);
    b.due("free", b.x.free(0), 2);
    b.due("room(1)", b.x.room(1), 78);
    b.due("alloc", b.x.alloc(0, 2), 78);
    b.machine("memory 64 mantissa 8;");
    b.x.alloc(0, 47);
    b.due("a hole of one byte", b.x.has(6), 1);
    b.x.alloc(1, 1);
    b.due("no hole", b.x.has(6), 0);
  }

  private static void bytesAreNone() {
    b.machine("memory 64 mantissa 4;");
    b.x.move(15, 12);
    for (int a = 12; a < 40; a++) {
      b.x.store(15, a);
      b.x.move(15, 1);
    }
    b.x.alloc(0, 9);
    b.due("free", b.x.free(0), 10);
    for (int a = 12; a < 40; a++) b.due("octetAt(" + a + ")", b.x.octetAt(a), a < 16 || a > 25 ? a : 0);
  }

  private static void freeing() {
    b.fresh();
    b.due("without a machine", b.x.free(0), -1);
    b.machine("memory 64 mantissa 4;shelf s kind 2;");
    b.x.copy(15, 14);
    b.x.move(14, 2);
    b.x.alloc(0, 8);
    b.x.alloc(1, 8);
    b.x.copy(0, 2);
    b.x.move(2, 11);
    b.x.narrow(0, 3, 2);
    b.x.copy(0, 4);
    b.x.seal(4, 14);
    b.x.shelve(4, 0);
    b.x.copy(0, 5);
    b.x.move(5, 8);
    b.x.narrow(5, 5, 0);
    b.x.store(0, 9);
    b.x.store(1, 8);
    b.due("free of a narrowed one", b.x.free(3), -1);
    b.due("free of a sealed one", b.x.free(4), -1);
    b.due("free of one not valid", b.x.free(7), -1);
    b.due("free of the one of all", b.x.free(15), -1);
    b.due("free(16)", b.x.free(16), -1);
    b.due("free(-1)", b.x.free(-1), -1);
    b.due("status(2)", b.x.status(2), 7);
    b.due("free by another that has the bounds", b.x.free(2), 8);
    int[] valid = {0, 1, 0, 0, 0, 1, 0, 0, 0, 0, 0, 0, 0, 0, 1, 1};
    for (int i = 0; i < 16; i++) b.due("valid " + i, b.x.pointer(i, 0), valid[i]);
    b.due("on the shelf", b.x.shelf(0, 0, 0), 0);
    b.due("its address stays", b.x.pointer(2, 1), 27);
    b.due("its bytes", b.x.octetAt(16), 0);
    b.due("other bytes", b.x.octetAt(24), 8);
    b.due("free again", b.x.free(0), -1);
    b.due("free, at the very end", b.x.free(5), -1);
    b.due("free", b.x.free(1), 8);
    b.due("objects", b.x.has(3), 0);
    b.due("one hole", b.x.has(5), 1);
    b.due("its base was in it", b.x.pointer(5, 0), 0);
  }
}
