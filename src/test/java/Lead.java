/** Leads an object by its tape. */
final class Lead {
  interface Answer {
    boolean of(FatPointers x);
  }

  private Lead() {
  }

  /** These characters, 0 to 255 each, and no others are on the tape. */
  static void tape(FatPointers x, String text) {
    x.end(0);
    for (int i = 0; i < text.length(); i += 20) {
      int[] n = new int[5];
      for (int j = 0; j < 20; j++) {
        n[j / 4] = n[j / 4] << 8 | (i + j < text.length() ? text.charAt(i + j) : 32);
      }
      x.feed(n[0], n[1], n[2], n[3], n[4]);
    }
    x.end(text.length());
  }
}
