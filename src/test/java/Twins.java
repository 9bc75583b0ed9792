/**
 * Compares an object on which a call was made with a twin on which it was not: by every query, at
 * once and behind later calls, which show what no query shows at once.
 */
final class Twins {
  interface Setup {
    HashedDirectory make();
  }

  interface Use {
    Object on(HashedDirectory x);
  }

  /** What may tell a change that no query tells at once: saved states, slots, ids and the text. */
  private static final Use[] LATER = {
    x -> "nothing", x -> undo(x, 1), x -> undo(x, 2), x -> undo(x, 3), x -> undo(x, 4),
    x -> undo(x, 5), x -> undo(x, 6), x -> undo(x, 7), x -> x.restore(0), x -> x.restore(1),
    x -> Check.add(x, "zq"), HashedDirectory::runText, x -> x.rename(0)
  };

  private Twins() {}

  /** The call must answer this and change nothing; each look has two new objects. */
  static void unchanged(String call, Setup setup, Use use, String want) {
    for (int i = 0; i < LATER.length; i++) {
      Use later = LATER[i];
      for (Look.Part part : Look.PARTS) {
        HashedDirectory x = setup.make();
        HashedDirectory twin = setup.make();
        String title = call + ", then later call " + i;
        Check.due(call, Check.answer(() -> use.on(x)), want);
        Check.due(title, Check.answer(() -> later.on(x)), Check.answer(() -> later.on(twin)));
        Check.due("a look behind " + title, part.of(x), part.of(twin));
      }
    }
  }

  static String undo(HashedDirectory x, int times) {
    StringBuilder answers = new StringBuilder();
    for (int i = 0; i < times; i++) {
      answers.append(Check.answer(x::undo)).append(' ');
    }
    return answers.toString();
  }
}
