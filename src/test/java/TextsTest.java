/** Promises 10 to 13 and 35: the text buffer and its commands. */
public final class TextsTest {
  private static final Class<?> ARGUMENT = IllegalArgumentException.class;
  private static final Class<?> STATE = IllegalStateException.class;

  private TextsTest() {}

  public static void main(String[] args) {
    promise10AppendText();
    promise10AppendTextFull();
    promise11ClearText();
    promise12ErrorPositionOfValidTexts();
    promise12ErrorPosition();
    promise13RunText();
    promise13RunTextEndsBeforeACommand();
    promise13RunTextUndoable();
    promise13RunTextWrong();
    promise35TextLength();
    Check.finish("TextsTest");
  }

  private static void promise10AppendText() {
    HashedDirectory x = new HashedDirectory();
    Check.due("appendText(32)", x.appendText(32), 1);
    Check.due("appendText(126)", x.appendText(126), 2);
    Check.due("savedStates() behind appendText()", x.savedStates(), 0);
    int[] codes = {31, 127, 0, -1, 97 + 65536, Integer.MIN_VALUE, Integer.MAX_VALUE};
    for (int code : codes) {
      Check.dueThrow(x, "appendText(" + code + ")", ARGUMENT, () -> x.appendText(code));
    }
    x.clearText();
    x.appendText('a');
    Check.due("appendText() appends behind", x.appendText('b'), 2);
    Check.due("hashOfText()", x.hashOfText(), 54);
  }

  private static void promise10AppendTextFull() {
    HashedDirectory x = new HashedDirectory();
    for (int length = 1; length <= 80; length++) {
      Check.due("appendText(97)", x.appendText(97), length);
    }
    Check.dueThrow(x, "appendText(97) to 80 characters", STATE, () -> x.appendText(97));
    Check.dueThrow(x, "appendText(31) to 80 characters", ARGUMENT, () -> x.appendText(31));
    x.clearText();
    Check.due("appendText(97) behind clearText()", x.appendText(97), 1);
  }

  private static void promise11ClearText() {
    HashedDirectory x = Check.with("a");
    Check.due("clearText() of no text", x.clearText(), 0);
    Check.type(x, "+abc");
    Check.due("clearText()", x.clearText(), 4);
    Check.due("clearText() again", x.clearText(), 0);
    Check.due("textLength()", x.textLength(), 0);
    Check.due("savedStates() behind clearText()", x.savedStates(), 1);
    Check.type(x, "b");
    Check.due("hashOfText() behind clearText()", x.hashOfText(), 37);
  }

  private static void promise12ErrorPositionOfValidTexts() {
    String[] texts = {
      "+a", "-a", "a=b", "a=a", "+abcdef", "-abcdef", "abcdef=uvwxyz", "+z;-z;z=y", "a=b;+c"
    };
    for (String text : texts) {
      HashedDirectory x = new HashedDirectory();
      Check.type(x, text);
      Check.due("errorPosition() of " + text, x.errorPosition(), -2);
      Check.due("textLength() behind errorPosition()", x.textLength(), text.length());
    }
  }

  private static void promise12ErrorPosition() {
    String[] texts = {
      "", "+", "a", "a=", "+a;", "a=b;", "abcdef", "+a;b", "+a;-",
      "=", ";", " ", "1", "A", "++", "+-a", "+;", "+=", "+a+", "+a=", "+a=b", "-a=b", "+a b",
      "a;", "a+", "a-", "a=;", "a==", "a=+", "a=b=", "a=b+", "a=b;;", "+a;;", "+a;=",
      "+abcdefg", "abcdefg=a", "a=abcdefg", "+a;-abcdefg", "+a ", " +a", "+aA", "+`", "+{"
    };
    int[] positions = {
      0, 1, 1, 2, 3, 4, 6, 4, 4,
      0, 0, 0, 0, 0, 1, 1, 1, 1, 2, 2, 2, 2, 2,
      1, 1, 1, 2, 2, 2, 3, 3, 4, 3, 3,
      7, 6, 8, 10, 2, 0, 2, 1, 1
    };
    for (int i = 0; i < texts.length; i++) {
      HashedDirectory x = new HashedDirectory();
      Check.type(x, texts[i]);
      Check.due("errorPosition() of '" + texts[i] + "'", x.errorPosition(), positions[i]);
    }
    HashedDirectory x = new HashedDirectory();
    Check.type(x, "+a;+b;".repeat(13) + "+c");
    Check.due("errorPosition() of 80 valid characters", x.errorPosition(), -2);
    Check.type(x, "+a;+b;".repeat(13) + "c;");
    Check.due("errorPosition() at the index 79", x.errorPosition(), 79);
    Check.type(x, "+a;+b;".repeat(13) + "cc");
    Check.due("errorPosition() of a text that is full", x.errorPosition(), 80);
  }

  private static void promise13RunText() {
    HashedDirectory x = Check.with("a");
    Check.due("runText()", Check.run(x, "+b;+c;-a;b=abcdef;+a"), 5);
    Check.due("textLength() behind runText()", x.textLength(), 20);
    Check.due("the ids", Check.ids(x), "3 4 2");
    Check.due("a name", Check.nameOf(x, 3), "abcdef");
    Check.due("a name", Check.nameOf(x, 4), "a");
    Check.due("runText() of a name added and removed", Check.run(x, "+q;-q;+q"), 3);
    Check.due("the next id", Check.add(x, "r"), 7);
  }

  private static void promise13RunTextEndsBeforeACommand() {
    String[] texts = {
      "+a;+b", "+c;+a;+d", "-c;+d", "+d;-c;+e", "c=d;+e", "a=b;+d", "a=a;+d", "+d;a=d;+e",
      "-a;-a;+d", "a=d;a=e;+f", "-b;a=b;+b"
    };
    int[] executed = {0, 1, 0, 1, 0, 0, 0, 1, 1, 1, 2};
    int[] entries = {2, 3, 2, 3, 2, 2, 2, 3, 1, 2, 1};
    for (int i = 0; i < texts.length; i++) {
      HashedDirectory x = Check.with("a", "b");
      Check.due("runText() of " + texts[i], Check.run(x, texts[i]), executed[i]);
      Check.due("entries() behind " + texts[i], x.entries(), entries[i]);
      Check.due("savedStates() behind " + texts[i], x.savedStates(), 3);
      Check.due("textLength() behind " + texts[i], x.textLength(), texts[i].length());
    }
  }

  private static void promise13RunTextUndoable() {
    HashedDirectory x = Check.with("a", "b");
    x.open(0);
    Check.run(x, "-a;+c;+d;+e;+f;+g");
    Check.due("savedStates()", x.savedStates(), 4);
    Check.due("leaves()", x.leaves() > 1, true);
    Check.due("undo()", x.undo(), 3);
    Check.due("the ids behind undo()", Check.ids(x), "0 1");
    Check.due("leaves() behind undo()", x.leaves(), 1);
    Check.due("textLength() behind undo()", x.textLength(), 17);
    Check.due("runText() of the text that stays", x.runText(), 6);
  }

  private static void promise13RunTextWrong() {
    String[] texts = {"", "a", "+", "+c;", "+c;d", "c", "c=", "+c;+d;+abcdefg", "+c;;+d", " +c"};
    for (String text : texts) {
      HashedDirectory x = Check.with("a", "b");
      Check.type(x, text);
      Check.dueThrow(x, "runText() of '" + text + "'", ARGUMENT, x::runText);
    }
  }

  private static void promise35TextLength() {
    HashedDirectory x = new HashedDirectory();
    x.appendText('a');
    Check.due("textLength()", x.textLength(), 1);
    x.appendText('b');
    Check.due("textLength()", x.textLength(), 2);
    x.add();
    Check.due("textLength() behind add()", x.textLength(), 0);
    x.appendText('c');
    x.remove(0);
    x.undo();
    x.undo();
    Check.due("textLength() behind undo()", x.textLength(), 1);
    x.save(0);
    x.clearText();
    x.restore(0);
    Check.due("textLength() behind restore(0)", x.textLength(), 0);
  }
}
