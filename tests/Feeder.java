/** Puts texts and names into the numbers that GirlShots takes. */
final class Feeder {
  private Feeder() { }

  /** Feeds a text, filled up with blanks, and has it read; what text() answers. */
  static int read(GirlShots x, String text) {
    feed(x, text);
    return x.text(text.length());
  }

  static GirlShots told(String text) {
    GirlShots x = new GirlShots();
    int lines = read(x, text);
    if (lines < 0) throw new IllegalStateException("fault " + x.fault(0) + " at " + x.fault(1) + ": " + text);
    return x;
  }

  /** What the last feed answers; 0 for none. */
  static int feed(GirlShots x, String text) {
    int has = 0;
    for (int i = 0; i < text.length(); i += 20) {
      has = x.feed(four(text, i), four(text, i + 4), four(text, i + 8), four(text, i + 12), four(text, i + 16));
    }
    return has;
  }

  private static int four(String text, int from) {
    int number = 0;
    for (int i = from; i < from + 4; i++) number = number << 8 | (i < text.length() ? text.charAt(i) & 255 : ' ');
    return number;
  }

  static int name(String word) {
    int letters = 0;
    for (int i = 0; i < 6; i++) letters = letters << 5 | (i < word.length() ? word.charAt(i) - 'a' + 1 : 0);
    return letters;
  }
}
