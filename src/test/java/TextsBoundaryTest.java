/** Terms 5 and promises 10 to 13 and 35: the text and its commands, at each bound and beyond it. */
public final class TextsBoundaryTest {
  private static final String FULL_TEXT = "+a;+b;".repeat(13) + "+c";

  private TextsBoundaryTest() {}

  public static void main(String[] args) {
    theTextIsEmptyAtFirst();
    theTextHoldsEightyCharacters();
    charactersAreThirtyTwoToOneHundredTwentySix();
    clearingNoneToEighty();
    addAndRenameEmptyTheText();
    theEmptyTextIsNotValid();
    oneOrMoreCommands();
    oneSemicolonBetweenTwo();
    namesInCommandsHaveOneToSixLetters();
    lettersInCommandsAreFromAToZ();
    signsInCommands();
    aTextThatEndsTooEarly();
    theErrorPositionIsTheSmallest();
    theErrorPositionOfAFullText();
    runTextOfNoCommandExecuted();
    runTextOfAllCommandsExecuted();
    runTextEndsBeforeAnUnknownName();
    runTextEndsBeforeATakenName();
    runTextEndsBeforeTheFortyFirstEntry();
    runTextEndsBeforeOneIdMore();
    runTextLeavesTheText();
    runTextIsOneCallToUndo();
    runTextOfTwentySixCommands();
    Check.finish("TextsBoundaryTest");
  }

  private static HashedDirectory typed(String text) {
    HashedDirectory x = new HashedDirectory();
    Check.type(x, text);
    return x;
  }

  private static void valid(String text) {
    HashedDirectory x = typed(text);
    Check.due("errorPosition() of '" + text + "'", x.errorPosition(), -2);
    Check.due("runText() of '" + text + "'", Check.answer(x::runText).startsWith("throws."),
        false);
  }

  private static void wrong(String text, int position) {
    HashedDirectory x = typed(text);
    Check.due("errorPosition() of '" + text + "'", x.errorPosition(), position);
    Check.due("runText() of '" + text + "'", Check.answer(x::runText), Check.ARGUMENT);
  }

  /** "is empty at first" */
  private static void theTextIsEmptyAtFirst() {
    HashedDirectory x = new HashedDirectory();
    Check.due("textLength() of a new object", x.textLength(), 0);
    Check.due("appendText() of the first one", x.appendText('a'), 1);
    Check.due("textLength()", x.textLength(), 1);
  }

  /** "The text buffer holds at most 80 characters": the 80th is the last one. */
  private static void theTextHoldsEightyCharacters() {
    HashedDirectory x = new HashedDirectory();
    for (int length = 1; length <= 80; length++) {
      Check.due("appendText()", x.appendText(FULL_TEXT.charAt(length - 1)), length);
    }
    Check.due("textLength()", x.textLength(), 80);
    Check.due("appendText() of the 81st", Check.answer(() -> x.appendText('z')), Check.STATE);
    Check.due("textLength()", x.textLength(), 80);
    Check.due("errorPosition()", x.errorPosition(), -2);
  }

  /** "a character code, 32 to 126" */
  private static void charactersAreThirtyTwoToOneHundredTwentySix() {
    int length = 0;
    HashedDirectory x = new HashedDirectory();
    for (int code = 0; code <= 255; code++) {
      int character = code;
      if (length == 80) {
        Check.due("clearText()", x.clearText(), 80);
        length = 0;
      }
      boolean is = code >= 32 && code <= 126;
      length += is ? 1 : 0;
      Check.due("appendText(" + code + ")", Check.answer(() -> x.appendText(character)),
          is ? String.valueOf(length) : Check.ARGUMENT);
    }
  }

  /** Promise 11: "the length of the text before the call" */
  private static void clearingNoneToEighty() {
    for (int length : new int[] {0, 1, 79, 80}) {
      HashedDirectory x = typed("a".repeat(length));
      Check.due("clearText()", x.clearText(), length);
      Check.due("clearText() again", x.clearText(), 0);
      Check.due("textLength()", x.textLength(), 0);
      Check.due("appendText()", x.appendText('z'), 1);
      Check.due("hashOfText()", x.hashOfText(), 61);
    }
  }

  /** Promises 2 and 4: "and empties the text buffer", of one letter and of six. */
  private static void addAndRenameEmptyTheText() {
    HashedDirectory x = typed("abcdef");
    x.add();
    Check.due("textLength() behind add()", x.textLength(), 0);
    Check.due("appendText() behind add()", x.appendText('b'), 1);
    x.rename(0);
    Check.due("textLength() behind rename()", x.textLength(), 0);
    Check.due("the name", Check.nameOf(x, 1), "b");
    Check.due("add() of no text", Check.answer(x::add), Check.ARGUMENT);
  }

  /** "(it ends too early, or it is empty)" */
  private static void theEmptyTextIsNotValid() {
    wrong("", 0);
    HashedDirectory x = typed("+a");
    x.clearText();
    Check.due("errorPosition() behind clearText()", x.errorPosition(), 0);
  }

  /** "Commands are one or more of the following" */
  private static void oneOrMoreCommands() {
    valid("+a");
    valid("-a");
    valid("a=b");
    valid("+a;-a;a=b");
    valid("a=b;+a");
    valid("-a;a=b");
    valid("+a;+a");
    valid(FULL_TEXT);
    valid("abcdef=uvwxyz;".repeat(5) + "+abcdef;+a");
  }

  /** "with one semicolon between two of them": none before the first and behind the last. */
  private static void oneSemicolonBetweenTwo() {
    wrong(";", 0);
    wrong(";+a", 0);
    wrong("+a;", 3);
    wrong("a=b;", 4);
    wrong("+a;;", 3);
    wrong("+a;;+b", 3);
    wrong("a=b;;c=d", 4);
    wrong("+a-b", 2);
    wrong("a=b+c", 3);
    wrong("+a,+b", 2);
    wrong("+a; +b", 3);
  }

  /** In each place that a name has: none, one, six and seven letters. */
  private static void namesInCommandsHaveOneToSixLetters() {
    String[] before = {"+", "-", "", "b=", "+b;+", "+b;-", "+b;", "+b;b="};
    String[] behind = {"", "", "=b", "", "", "", "=b", ""};
    for (int i = 0; i < before.length; i++) {
      int from = before[i].length();
      valid(before[i] + "a" + behind[i]);
      valid(before[i] + "abcdef" + behind[i]);
      valid(before[i] + "abcdef" + behind[i] + ";+c");
      wrong(before[i] + behind[i], from);
      wrong(before[i] + ";+c", from);
      wrong(before[i] + "abcdefg" + behind[i], from + 6);
      wrong(before[i] + "abcdefg", from + 6);
    }
  }

  private static void lettersInCommandsAreFromAToZ() {
    String[] before = {"+", "-", "b=", "+z", "-z", "b=z", "+b;+", "+b;b="};
    for (String text : before) {
      valid(text + "a");
      valid(text + "z");
      for (char sign : "`{@[AZ09 ~_".toCharArray()) {
        wrong(text + sign, text.length());
        wrong(text + sign + ";+b", text.length());
      }
    }
    for (char sign : "`{@[AZ09 ~_".toCharArray()) {
      wrong(sign + "=b", 0);
      wrong("a" + sign + "=b", 1);
      wrong("+a;" + sign, 3);
    }
  }

  /** The three kinds of commands do not mix. */
  private static void signsInCommands() {
    wrong("=", 0);
    wrong("=a", 0);
    wrong("++a", 1);
    wrong("+-a", 1);
    wrong("--a", 1);
    wrong("+=a", 1);
    wrong("+a=b", 2);
    wrong("-a=b", 2);
    wrong("a+b", 1);
    wrong("a-b", 1);
    wrong("a;+b", 1);
    wrong("a==b", 2);
    wrong("a=+b", 2);
    wrong("a=-b", 2);
    wrong("a=;", 2);
    wrong("a=b=c", 3);
    wrong("+a+", 2);
    wrong("+a-", 2);
    wrong("*a", 0);
  }

  /** "If there is no such index and the text is not valid ..., ... is the length of the text." */
  private static void aTextThatEndsTooEarly() {
    wrong("+", 1);
    wrong("-", 1);
    wrong("a", 1);
    wrong("abcdef", 6);
    wrong("a=", 2);
    wrong("abcdef=", 7);
    wrong("+a;-", 4);
    wrong("+a;b", 4);
    wrong("+a;bcdefg", 9);
    wrong("+a;b=", 5);
  }

  /** "the smallest index i": what comes behind the first error does not count. */
  private static void theErrorPositionIsTheSmallest() {
    wrong("!!!", 0);
    wrong("+!;!", 1);
    wrong("+a!;+!", 2);
    wrong("+a;+b!;+!", 5);
    wrong("+abcdefgh", 7);
    wrong("abcdefgh=!", 6);
    wrong(" ".repeat(80), 0);
    wrong("a".repeat(80), 6);
  }

  /** "no valid commands of any length": a full text may still be the beginning of longer ones. */
  private static void theErrorPositionOfAFullText() {
    String most = "+a;+b;".repeat(13);
    wrong(most + "+!", 79);
    wrong(most + "!!", 78);
    wrong(most + "++", 79);
    wrong(most + "a;", 79);
    wrong(most + "a=", 80);
    wrong(most + "ab", 80);
    wrong(most.substring(0, 77) + "=a;", 77);
    wrong(most.substring(0, 77) + "ab;", 80);
    wrong(most.substring(0, 77) + ";+", 79);
    wrong(most + "+", 79);
    wrong(most, 78);
    valid(most + "+c");
  }

  /** Promise 13: "Undoable, as one call, also if no command is executed." */
  private static void runTextOfNoCommandExecuted() {
    for (String text : new String[] {"+a", "-c", "c=d", "a=b", "a=a", "+a;+c", "-c;+c", "a=a;+c"}) {
      HashedDirectory x = Check.with("a", "b");
      Check.due("runText() of " + text, Check.run(x, text), 0);
      Check.due("the ids", Check.ids(x), "0 1");
      Check.due("savedStates()", x.savedStates(), 3);
      Check.due("undo()", x.undo(), 2);
      Check.due("the ids behind undo()", Check.ids(x), "0 1");
    }
  }

  private static void runTextOfAllCommandsExecuted() {
    HashedDirectory x = Check.with("a", "b");
    Check.due("runText() of one", Check.run(x, "+c"), 1);
    Check.due("runText() of two", Check.run(x, "-c;+c"), 2);
    Check.due("runText() of three", Check.run(x, "a=d;b=a;d=b"), 3);
    Check.due("the ids", Check.ids(x), "5 6 3");
    Check.due("the names", Check.nameOf(x, 5) + Check.nameOf(x, 6) + Check.nameOf(x, 3), "abc");
  }

  /** "for which no entry has the name that is to be removed or renamed" */
  private static void runTextEndsBeforeAnUnknownName() {
    dueRun("-a;-a;+c", 1, "1");
    dueRun("a=c;a=d;+e", 1, "1 2");
    dueRun("-b;b=c;+d", 1, "0");
    dueRun("a=c;-a;+d", 1, "1 2");
    dueRun("+c;-d;-c", 1, "0 1 2");
    dueRun("+c;d=e;-c", 1, "0 1 2");
    dueRun("c=a;-a", 0, "0 1");
  }

  /** "or for which add() or rename() would throw an exception", also to the entry's own name. */
  private static void runTextEndsBeforeATakenName() {
    dueRun("+c;+c;+d", 1, "0 1 2");
    dueRun("+c;+b;+d", 1, "0 1 2");
    dueRun("+c;a=b;+d", 1, "0 1 2");
    dueRun("+c;a=a;+d", 1, "0 1 2");
    dueRun("+c;c=c;+d", 1, "0 1 2");
    dueRun("-b;a=b;+a;b=a;+d", 3, "3 2");
  }

  private static void dueRun(String text, int executed, String ids) {
    HashedDirectory x = Check.with("a", "b");
    Check.due("runText() of " + text, Check.run(x, text), executed);
    Check.due("the ids behind " + text, Check.ids(x), ids);
  }

  private static void runTextEndsBeforeTheFortyFirstEntry() {
    HashedDirectory x = Samples.filled(38);
    Check.due("runText() of the 39th to 42nd", Check.run(x, "+za;+zb;+zc;-a;+zd"), 2);
    Check.due("entries()", x.entries(), 40);
    Check.due("runText() of a rename of 40", Check.run(x, "za=zc;+za;-zb"), 1);
    Check.due("entries()", x.entries(), 40);
    Check.due("runText() of a remove of 40", Check.run(x, "-zb;+za"), 2);
    Check.due("entries()", x.entries(), 40);
  }

  private static void runTextEndsBeforeOneIdMore() {
    HashedDirectory x = Samples.spent(998);
    Check.due("runText() of three adds", Check.run(x, "+q;+r;+s;-q"), 2);
    Check.due("the ids", Check.ids(x), "997 998 999");
    x.undo();
    Check.due("runText() of three renames", Check.run(x, "b=q;q=r;r=s;-r"), 2);
    Check.due("the ids", Check.ids(x), "999");
    Check.due("runText() of removes alone", Check.run(x, "-r;-r"), 1);
  }

  /** "The text stays in the buffer.", also a part that was not executed. */
  private static void runTextLeavesTheText() {
    for (String text : new String[] {"+c;+d", "+c;+a;+d", "-q"}) {
      HashedDirectory x = Check.with("a", "b");
      Check.run(x, text);
      Check.due("textLength() behind runText()", x.textLength(), text.length());
      Check.due("errorPosition() behind runText()", x.errorPosition(), -2);
      x.undo();
      Check.due("textLength() behind undo()", x.textLength(), text.length());
    }
    HashedDirectory x = Check.with("a", "b");
    Check.due("runText()", Check.run(x, "+c;-a"), 2);
    Check.due("runText() of the same text", x.runText(), 0);
    x.remove(2);
    Check.due("runText() of the same text", x.runText(), 1);
  }

  private static void runTextIsOneCallToUndo() {
    HashedDirectory x = Check.with("a", "b");
    Check.run(x, "+c;-a;b=d;+e;+f;+g;+h");
    Check.due("savedStates()", x.savedStates(), 3);
    Check.due("undo()", x.undo(), 2);
    Check.due("the ids", Check.ids(x), "0 1");
    Check.due("leaves()", x.leaves(), 1);
    Check.due("the next id", Check.add(x, "c"), 2);
  }

  /** Twenty-seven adds of one letter are the most commands that a text holds; "a" is taken then. */
  private static void runTextOfTwentySixCommands() {
    StringBuilder text = new StringBuilder("+a");
    for (char letter = 'b'; letter <= 'z'; letter++) {
      text.append(";+").append(letter);
    }
    HashedDirectory x = new HashedDirectory();
    Check.due("runText() of 27 commands", Check.run(x, text + ";+a"), 26);
    Check.due("textLength()", x.textLength(), 80);
    Check.due("entries()", x.entries(), 26);
    HashedDirectory y = new HashedDirectory();
    Check.due("runText() of 27 commands", Check.run(y, text + ";-z"), 27);
    Check.due("entries()", y.entries(), 25);
  }
}
