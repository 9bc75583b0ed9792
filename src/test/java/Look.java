/**
 * What every query answers, in three parts: with the calls ahead of it, each part has room in the
 * 512 calls of an object.
 */
final class Look {
  interface Part {
    String of(HashedDirectory x);
  }

  static final Part[] PARTS = {Look::atEntries, Look::atTree, Look::atReadersAndText};

  private Look() {}

  static String atEntries(HashedDirectory x) {
    StringBuilder seen = new StringBuilder("entries " + x.entries());
    int place = 0;
    for (int id = x.idAt(0); id != HashedDirectory.NONE; id = x.idAt(place)) {
      seen.append(", ").append(id).append(' ').append(Check.nameOf(x, id));
      seen.append(' ').append(x.hashOf(id));
      place++;
    }
    seen.append(", withHash");
    for (int hash = 0; hash < 64; hash++) {
      seen.append(' ').append(x.withHash(hash));
    }
    seen.append(", find ").append(Check.answer(x::find));
    return seen.append(", hashOfText ").append(Check.answer(x::hashOfText)).toString();
  }

  static String atTree(HashedDirectory x) {
    StringBuilder seen = new StringBuilder("leaves " + x.leaves());
    seen.append(", splits ").append(x.splits()).append(", merges ").append(x.merges());
    seen.append(", meanLeafSize ").append(x.meanLeafSize()).append(", depths and sizes");
    for (int hash = 0; hash < 64; hash++) {
      seen.append(' ').append(x.depthOf(hash)).append('-').append(x.leafSize(hash));
    }
    return seen.append(", leavesIfAdded ").append(Check.answer(x::leavesIfAdded)).toString();
  }

  static String atReadersAndText(HashedDirectory x) {
    StringBuilder seen = new StringBuilder("readers");
    for (int reader = 0; reader < 4; reader++) {
      seen.append(' ').append(x.position(reader)).append('-').append(x.peek(reader));
      seen.append('-').append(x.remaining(reader));
    }
    seen.append(", savedStates ").append(x.savedStates());
    seen.append(", textLength ").append(x.textLength());
    return seen.append(", errorPosition ").append(x.errorPosition()).toString();
  }
}
