/** What the tests share: it counts and prints every answer that is not the one that is due. */
final class Check {
  interface Call {
    Object run();
  }

  static final String INDEX = "throws.IndexOutOfBoundsException";
  static final String ARGUMENT = "throws.IllegalArgumentException";
  static final String STATE = "throws.IllegalStateException";

  private static int wrong = 0;
  private static int checked = 0;

  private Check() {}

  static void due(String call, Object got, Object want) {
    checked++;
    if (!got.equals(want)) {
      wrong++;
      System.out.println(call + " answered " + got + ", due is " + want);
    }
  }

  /** The call must throw exactly this exception and change nothing that can be asked. */
  static void dueThrow(HashedDirectory x, String call, Class<?> exception, Call run) {
    String before = look(x);
    due(call, answer(run), "throws." + exception.getSimpleName());
    due("a look behind " + call, look(x), before);
  }

  static String answer(Call run) {
    try {
      return String.valueOf(run.run());
    } catch (RuntimeException e) {
      return "throws." + e.getClass().getSimpleName();
    }
  }

  /** Some thirty calls for a small directory, so that the 512 calls of an object suffice. */
  static String look(HashedDirectory x) {
    StringBuilder seen = new StringBuilder();
    for (int i = 0; i < x.entries(); i++) {
      seen.append(x.idAt(i)).append(' ').append(x.hashOf(x.idAt(i))).append(", ");
    }
    for (int reader = 0; reader < 4; reader++) {
      seen.append(x.position(reader)).append(' ');
    }
    seen.append("leaves ").append(x.leaves()).append(' ').append(x.splits()).append(' ');
    seen.append(x.merges()).append(" saved ").append(x.savedStates()).append(" text ");
    seen.append(x.textLength()).append(' ').append(x.errorPosition()).append(' ');
    return seen.append(answer(x::hashOfText)).toString();
  }

  /** Replaces the text. */
  static void type(HashedDirectory x, String text) {
    x.clearText();
    for (int i = 0; i < text.length(); i++) {
      x.appendText(text.charAt(i));
    }
  }

  static int add(HashedDirectory x, String name) {
    type(x, name);
    return x.add();
  }

  static int run(HashedDirectory x, String commands) {
    type(x, commands);
    return x.runText();
  }

  static HashedDirectory with(String... names) {
    HashedDirectory x = new HashedDirectory();
    for (String name : names) {
      add(x, name);
    }
    return x;
  }

  static String ids(HashedDirectory x) {
    StringBuilder ids = new StringBuilder();
    for (int i = 0; x.idAt(i) != HashedDirectory.NONE; i++) {
      ids.append(x.idAt(i)).append(' ');
    }
    return ids.toString().trim();
  }

  static String nameOf(HashedDirectory x, int id) {
    StringBuilder name = new StringBuilder();
    for (int i = 0; x.letterOf(id, i) != HashedDirectory.NONE; i++) {
      name.append((char) x.letterOf(id, i));
    }
    return name.toString();
  }

  static void finish(String test) {
    System.out.println(test + ": " + checked + " answers, " + wrong + " not as due");
    if (wrong != 0 || checked == 0) {
      System.exit(1);
    }
  }
}
