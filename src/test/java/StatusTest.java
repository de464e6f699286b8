/** Promise 45: status, each call refused once, none of the others counted. */
public final class StatusTest {
  private static final Bench b = new Bench("StatusTest");

  public static void main(String[] args) {
    b.machine("memory 64 mantissa 4;");
    int[] due = new int[8];
    b.x.end(-1);
    due[0]++;
    same("end", due);
    for (int i = 0; i < 81; i++) b.x.feed(1, 2, 3, 4, 5);
    due[0]++;
    same("feed", due);
    b.x.machine();
    due[1]++;
    same("machine", due);
    b.x.see();
    due[1]++;
    same("see", due);
    b.x.alloc(-1, 1);
    due[2]++;
    same("alloc", due);
    b.x.free(-1);
    due[2]++;
    same("free", due);
    b.x.chance(0);
    due[2]++;
    same("chance", due);
    b.x.copy(1, 1);
    due[3]++;
    same("copy", due);
    b.x.move(-1, 1);
    due[3]++;
    same("move", due);
    b.x.narrow(-1, 1, 1);
    due[3]++;
    same("narrow", due);
    b.x.limit(-1, 1);
    due[3]++;
    same("limit", due);
    b.x.seal(-1, 1);
    due[4]++;
    same("seal", due);
    b.x.unseal(-1, 1);
    due[4]++;
    same("unseal", due);
    b.x.shelve(0, 0);
    due[4]++;
    same("shelve", due);
    b.x.take(0, 0, 0);
    due[4]++;
    same("take", due);
    b.x.load(-1);
    due[5]++;
    same("load", due);
    b.x.store(-1, 1);
    due[5]++;
    same("store", due);
    b.x.undo();
    due[6]++;
    same("undo", due);
    b.x.seed(-1);
    due[7]++;
    same("seed", due);
    b.x.on();
    due[7]++;
    same("on", due);
    b.x.ask();
    b.x.image();
    b.x.octet(-1);
    b.x.fits(-1, 0);
    b.x.room(0);
    b.x.tells(-1, 0);
    b.x.pointer(-1, 0);
    same("others", due);
    b.machine("memory 64 mantissa 4;");
    same("a machine", due);
    b.due("status(8)", b.x.status(8), -1);
    b.due("status(-1)", b.x.status(-1), -1);
    b.ends();
  }

  private static void same(String what, int[] due) {
    for (int i = 0; i < 8; i++) b.due("status(" + i + ") by " + what, b.x.status(i), due[i]);
  }
}
