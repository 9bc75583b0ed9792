import java.util.ArrayList;
import java.util.List;

/** Objects and names that several tests begin with. */
final class Samples {
  static final int MAX_TEXT = 80;
  /** Twenty commands, the most renamings that a text holds. */
  static final String RENAMINGS = "a=b;b=a;".repeat(10).substring(0, 79);
  /** Texts that are not names: too short, too long, and with signs beside "a" to "z". */
  static final String[] NO_NAMES = {
    "", "abcdefg", "a".repeat(MAX_TEXT), "`", "{", "aaaaa`", "{aaaaa", "@", "A", "Z", "[", "aB",
    " ", "~", " a", "a ", "a b", "a1", "+a", "-a", "a=b", "a;b", "a;"
  };

  private Samples() {}

  static String nameWithHash(int hash) {
    return namesWithHash(hash, 1)[0];
  }

  /** Names of two letters, and behind them of three. */
  static String[] namesWithHash(int hash, int count) {
    List<String> found = new ArrayList<>();
    for (int i = 26; i < 26 * 27 * 27 && found.size() < count; i++) {
      String name = i < 27 * 26 ? letters(i - 26, 2) : letters(i - 27 * 26, 3);
      if (Model.hash(name) == hash) {
        found.add(name);
      }
    }
    return found.toArray(new String[0]);
  }

  private static String letters(int number, int length) {
    StringBuilder name = new StringBuilder();
    int rest = number;
    for (int i = 0; i < length; i++) {
      name.append((char) ('a' + rest % 26));
      rest /= 26;
    }
    return name.reverse().toString();
  }

  /** Adds names by as few texts as they need, and leaves no text. */
  static void addAll(HashedDirectory x, String... names) {
    StringBuilder text = new StringBuilder();
    int inText = 0;
    for (String name : names) {
      if (text.length() + 2 + name.length() > MAX_TEXT) {
        Check.due("runText() of " + text, Check.run(x, text.toString()), inText);
        text.setLength(0);
        inText = 0;
      }
      text.append(inText == 0 ? "+" : ";+").append(name);
      inText++;
    }
    Check.due("runText() of " + text, Check.run(x, text.toString()), inText);
    x.clearText();
  }

  /** Entries "a" to "z", then "ba" to "bz", with the ids from 0 on. */
  static HashedDirectory filled(int entries) {
    String[] names = new String[entries];
    for (int i = 0; i < entries; i++) {
      names[i] = (i < 26 ? "" : "b") + (char) ('a' + i % 26);
    }
    HashedDirectory x = new HashedDirectory();
    addAll(x, names);
    Check.due("entries()", x.entries(), entries);
    return x;
  }

  /**
   * One entry with the last of so many ids, 982 to 1000: "a" if they are odd, "b" if they are even.
   */
  static HashedDirectory spent(int ids) {
    HashedDirectory x = Check.with("a");
    Check.type(x, RENAMINGS);
    for (int i = 0; i < 49; i++) {
      Check.due("runText() of 20 renamings", x.runText(), 20);
    }
    int left = ids - 981;
    Check.due("runText() of the last renamings",
        Check.run(x, RENAMINGS.substring(0, 4 * left - 1)), left);
    Check.due("the last id", x.idAt(0), ids - 1);
    x.clearText();
    return x;
  }

  /**
   * Six states are saved, slot 0 holds a state and slot 1 none, the reader 0 is at START, 1 at a
   * key, 2 beside one, and 3 is closed; the tree has four leaves, and the id 1 was removed.
   */
  static HashedDirectory busy(String text) {
    HashedDirectory x = new HashedDirectory();
    addAll(x, "a", "b", "c", "d", "e");
    x.open(0);
    x.open(1);
    x.next(1);
    x.open(2);
    x.seek(2, 38001);
    x.save(0);
    x.remove(1);
    Check.type(x, text);
    return x;
  }
}
