import java.util.ArrayList;
import java.util.List;
import java.util.Random;

/** Compares the class with the model over runs of 512 calls, made from written-down seeds. */
public final class ModelTest {
  private static final int RUNS = 1500;
  private static final int CALLS = 512;
  private static final int CALLS_FOR_THE_END = 30;

  private final HashedDirectory x = new HashedDirectory();
  private final Model model = new Model();
  private final Random random;
  private final List<String> names = new ArrayList<>();
  private final int run;
  private int calls = 0;

  private ModelTest(int run) {
    this.run = run;
    random = new Random(run);
    chooseNames();
  }

  public static void main(String[] args) {
    for (int run = 0; run < RUNS; run++) {
      new ModelTest(run).play();
    }
    Check.finish("ModelTest");
  }

  /** Names of neighbouring hashes make deep trees, few names make clashes of names. */
  private void chooseNames() {
    int bits = random.nextInt(7);
    int branch = random.nextInt(64) >> bits;
    int count = random.nextBoolean() ? 8 : 60;
    for (int i = 0; i < 100000 && names.size() < count; i++) {
      String name = anyName();
      if (Model.hash(name) >> bits == branch && !names.contains(name)) {
        names.add(name);
      }
    }
  }

  private String anyName() {
    StringBuilder name = new StringBuilder();
    int length = random.nextInt(3) == 0 ? 1 + random.nextInt(6) : 2;
    for (int i = 0; i < length; i++) {
      name.append((char) ('a' + random.nextInt(26)));
    }
    return name.toString();
  }

  private void play() {
    if (random.nextInt(3) == 0) {
      fill();
    }
    while (calls < CALLS - CALLS_FOR_THE_END - 90) {
      act();
      ask();
    }
    while (model.savedStates() > 0) {
      same("undo()", x::undo, model::undo);
      ask();
      ask();
    }
    same("undo()", x::undo, model::undo);
  }

  private void same(String call, Check.Call got, Check.Call want) {
    if (calls < CALLS) {
      calls++;
      Check.due("run " + run + ", call " + calls + ": " + call, Check.answer(got),
          Check.answer(want));
    }
  }

  /** Sixty names need three texts or fewer, so the limit of 40 entries is met. */
  private void fill() {
    int from = 0;
    for (int part = 0; part < 2; part++) {
      StringBuilder commands = new StringBuilder();
      while (from < names.size() && commands.length() + names.get(from).length() + 2 <= 80) {
        commands.append(commands.length() == 0 ? "+" : ";+").append(names.get(from++));
      }
      type(commands.toString());
      same("runText()", x::runText, model::runText);
    }
  }

  private void type(String text) {
    same("clearText()", x::clearText, model::clearText);
    for (char c : text.toCharArray()) {
      same("appendText(" + (int) c + ")", () -> x.appendText(c), () -> model.appendText(c));
    }
  }

  private String name() {
    return names.get(random.nextInt(names.size()));
  }

  private String commands() {
    StringBuilder text = new StringBuilder();
    int count = 1 + random.nextInt(6);
    for (int i = 0; i < count; i++) {
      text.append(i == 0 ? "" : ";");
      switch (random.nextInt(5)) {
        case 0, 1 -> text.append('+').append(name());
        case 2 -> text.append('-').append(name());
        default -> text.append(name()).append('=').append(name());
      }
    }
    if (random.nextInt(4) == 0) {
      text.setCharAt(random.nextInt(text.length()), "+-=;az A".charAt(random.nextInt(8)));
    }
    if (random.nextInt(4) == 0) {
      text.setLength(random.nextInt(text.length() + 1));
    }
    return text.toString();
  }

  private int id() {
    int place = random.nextInt(model.entries() + 1);
    return random.nextInt(6) == 0 ? random.nextInt(60) - 5 : model.idAt(place);
  }

  private int reader() {
    return random.nextInt(8) == 0 ? random.nextInt(8) - 2 : random.nextInt(2);
  }

  private int slot() {
    return random.nextInt(8) == 0 ? random.nextInt(6) - 2 : random.nextInt(2);
  }

  private int position() {
    return switch (random.nextInt(4)) {
      case 0 -> random.nextInt(6) - 4;
      case 1 -> 63996 + random.nextInt(6);
      case 2 -> random.nextInt(64000);
      default -> 1000 * Model.hash(name()) + random.nextInt(30);
    };
  }

  private void act() {
    int id = id();
    int reader = reader();
    int slot = slot();
    int position = position();
    switch (random.nextInt(20)) {
      case 0, 1, 2 -> {
        type(name());
        same("add()", x::add, model::add);
      }
      case 3, 4 -> same("remove(" + id + ")", () -> x.remove(id), () -> model.remove(id));
      case 5, 6 -> {
        type(name());
        same("rename(" + id + ")", () -> x.rename(id), () -> model.rename(id));
      }
      case 7 -> same("open(" + reader + ")", () -> x.open(reader), () -> model.open(reader));
      case 8 -> same("close(" + reader + ")", () -> x.close(reader), () -> model.close(reader));
      case 9, 10 -> same("next(" + reader + ")", () -> x.next(reader), () -> model.next(reader));
      case 11 -> same("readLeaf(" + reader + ")", () -> x.readLeaf(reader),
          () -> model.readLeaf(reader));
      case 12 -> same("seek(" + reader + ", " + position + ")", () -> x.seek(reader, position),
          () -> model.seek(reader, position));
      case 13, 14 -> {
        type(commands());
        same("errorPosition()", x::errorPosition, model::errorPosition);
        same("runText()", x::runText, model::runText);
      }
      case 15, 16 -> same("undo()", x::undo, model::undo);
      case 17 -> same("save(" + slot + ")", () -> x.save(slot), () -> model.save(slot));
      case 18 -> same("restore(" + slot + ")", () -> x.restore(slot), () -> model.restore(slot));
      default -> same("add()", x::add, model::add);
    }
  }

  private void ask() {
    int id = id();
    int reader = reader();
    int index = random.nextInt(9) - 1;
    int hash = random.nextInt(8) == 0 ? random.nextInt(70) - 3 : Model.hash(name());
    int place = random.nextInt(43) - 1;
    switch (random.nextInt(19)) {
      case 0 -> same("entries()", x::entries, model::entries);
      case 1 -> same("idAt(" + place + ")", () -> x.idAt(place), () -> model.idAt(place));
      case 2 -> same("find()", x::find, model::find);
      case 3 -> same("hashOfText()", x::hashOfText, model::hashOfText);
      case 4 -> same("hashOf(" + id + ")", () -> x.hashOf(id), () -> model.hashOf(id));
      case 5 -> same("letterOf(" + id + ", " + index + ")", () -> x.letterOf(id, index),
          () -> model.letterOf(id, index));
      case 6 -> same("withHash(" + hash + ")", () -> x.withHash(hash), () -> model.withHash(hash));
      case 7 -> same("leaves()", x::leaves, model::leaves);
      case 8 -> same("depthOf(" + hash + ")", () -> x.depthOf(hash), () -> model.depthOf(hash));
      case 9 -> same("leafSize(" + hash + ")", () -> x.leafSize(hash), () -> model.leafSize(hash));
      case 10 -> same("splits()", x::splits, model::splits);
      case 11 -> same("merges()", x::merges, model::merges);
      case 12 -> same("meanLeafSize()", x::meanLeafSize, model::meanLeafSize);
      case 13 -> {
        if (random.nextBoolean()) {
          type(name());
        }
        same("leavesIfAdded()", x::leavesIfAdded, model::leavesIfAdded);
      }
      case 14 -> same("position(" + reader + ")", () -> x.position(reader),
          () -> model.position(reader));
      case 15 -> same("peek(" + reader + ")", () -> x.peek(reader), () -> model.peek(reader));
      case 16 -> same("remaining(" + reader + ")", () -> x.remaining(reader),
          () -> model.remaining(reader));
      case 17 -> same("savedStates()", x::savedStates, model::savedStates);
      default -> same("textLength()", x::textLength, model::textLength);
    }
  }
}
