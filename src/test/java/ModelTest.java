import java.util.ArrayList;
import java.util.List;
import java.util.Map;
import java.util.TreeMap;

/**
 * Long runs of calls, each answer compared with the Model's. After each call that changes something
 * or throws, one NODE is looked at as a whole, so that what went wrong below shows soon.
 */
public final class ModelTest {
  private static final int RUNS = 4000;
  private static final int MOST_CALLS = 512;

  // A call, and a look at up to 72 ELEMENTS with their size.
  private static final int MOST_IN_A_TURN = 74;
  private static final int ENOUGH = 200;

  private static final String[] MAKERS = {
    "make", "copy", "reversed", "reversed", "part", "part", "part", "shifted", "ofMap", "ofMap",
    "combine", "combine", "hold"
  };
  private static final String[] CHANGERS = {
    "add", "add", "add", "insert", "insert", "put", "take", "remove"
  };
  private static final String[] LOOKERS = {"size", "at", "find", "mean", "alike", "about", "about"};
  private static final String[] ALL = {
    "make", "copy", "reversed", "part", "shifted", "ofMap", "combine", "hold", "size", "at", "find",
    "add", "insert", "put", "take", "remove", "mean", "alike", "about"
  };

  // What each call threw, or that it answered: counted, to see that the runs come everywhere.
  private static final Map<String, Integer> SEEN = new TreeMap<>();

  // One wrong run in full is enough to read: where many are wrong, it is mostly for one cause.
  private static boolean told;

  private long seed;
  private LiveCollections program;
  private Model model;
  private int calls;
  private final List<String> log = new ArrayList<>();

  public static void main(String[] args) {
    int wrong = 0;
    for (int run = 1; run <= RUNS; run++) {
      wrong += new ModelTest(run).run() ? 0 : 1;
    }
    boolean everywhere = cameEverywhere();
    System.out.println("ModelTest: " + RUNS + " runs, " + wrong + " wrong");
    System.exit(wrong == 0 && everywhere ? 0 : 1);
  }

  private ModelTest(long seed) {
    this.seed = seed * 0x9E3779B97F4A7C15L;
    program = new LiveCollections();
    model = new Model();
  }

  /** A row of the same numbers each time: no random source. */
  private int below(int bound) {
    seed = seed * 6364136223846793005L + 1442695040888963407L;
    return (int) ((seed >>> 33) % bound);
  }

  private boolean run() {
    // Runs differ in how much they make and change, so that some fill the lists and others nest.
    int making = 5 + below(30);
    int changing = 20 + below(40);
    boolean rising = below(3) == 0;
    while (calls <= MOST_CALLS - MOST_IN_A_TURN) {
      int lot = below(100);
      boolean looks = lot >= making + changing;
      String[] names = lot < making ? MAKERS : looks ? LOOKERS : CHANGERS;
      String name = names[below(rising && names == CHANGERS ? 5 : names.length)];
      if (!same(name, arguments(name))) {
        return false;
      }
      if (!looks && below(3) == 0 && !show()) {
        return false;
      }
    }
    return true;
  }

  private boolean show() {
    int handle = below(10);
    calls += model.elements(handle).size();
    return same("show", new int[] {handle});
  }

  private boolean same(String name, int[] arguments) {
    calls++;
    String due = model.answer(name, arguments);
    String got = Calls.answer(program, name, arguments);
    StringBuilder text = new StringBuilder(name);
    for (int argument : arguments) {
      text.append(' ').append(argument);
    }
    log.add(text + " = " + due);
    SEEN.merge(name + " " + (due.startsWith("throws.") ? due : "answers"), 1, Integer::sum);
    if (!got.equals(due) && !told) {
      told = true;
      System.out.println("a run ended with " + got + " where the last row's answer is due:");
      log.forEach(line -> System.out.println("  " + line));
    }
    return got.equals(due);
  }

  private int[] arguments(String name) {
    int node = handle();
    return switch (name) {
      case "make" -> new int[] {to(), below(12) == 0 ? below(12) : below(2) * 6};
      case "copy" -> new int[] {to(), below(12) == 0 ? below(12) : 1 + below(2), node};
      case "reversed" -> new int[] {to(), row(node)};
      case "part" -> part(row(node));
      case "shifted" -> new int[] {to(), row(node), below(8) == 0 ? any() : below(7) - 3};
      case "ofMap" -> new int[] {to(), map(node), below(20) == 0 ? below(12) - 2 : key()};
      case "combine" -> new int[] {to(), below(12) == 0 ? any() : 9 + below(3), node, handle()};
      case "hold" -> new int[] {to(), below(20) == 0 ? below(14) - 3 : below(10)};
      case "at", "take" -> new int[] {node, place(node)};
      case "find", "remove" -> new int[] {node, of(node)};
      case "add" -> new int[] {writable(node), value()};
      case "insert", "put" -> insert(writable(node));
      case "size", "mean" -> new int[] {node};
      case "alike" -> new int[] {node, handle()};
      case "about" -> new int[] {node, below(15) == 0 ? any() : below(5)};
      default -> throw new AssertionError("no call " + name);
    };
  }

  private int[] part(int node) {
    int size = model.elements(node).size();
    int start = below(size + 1);
    int end = start + below(size + 1 - start);
    return switch (below(12)) {
      case 0 -> new int[] {to(), node, any(), any()};
      case 1 -> new int[] {to(), node, end, start};
      case 2 -> new int[] {to(), node, start, size + 1};
      case 3, 4, 5 -> new int[] {to(), node, 0, size};
      default -> new int[] {to(), node, start, end};
    };
  }

  private int[] insert(int node) {
    return new int[] {node, place(node), value()};
  }

  private int to() {
    return below(60) == 0 ? any() : below(10);
  }

  private int handle() {
    int handle = below(10);
    for (int i = 0; i < 4 && model.kind(handle) < 0; i++) {
      handle = below(10);
    }
    return below(60) == 0 ? any() : handle;
  }

  // Mostly another handle, if what this one holds is not of a fitting KIND.

  private int row(int node) {
    return fitting(node, "0123457");
  }

  private int map(int node) {
    return fitting(node, "6");
  }

  private int writable(int node) {
    return fitting(node, "0347");
  }

  private int fitting(int node, String kinds) {
    int handle = node;
    for (int i = 0; i < 12 && handle >= 0 && handle <= 9; i++) {
      if (kinds.contains("" + model.kind(handle)) || below(40) == 0) {
        return handle;
      }
      handle = below(10);
    }
    return handle;
  }

  private int key() {
    return below(3) == 0 ? 8 : below(3) == 0 ? below(8) : below(3);
  }

  private int place(int node) {
    int size = model.elements(node).size();
    return below(15) == 0 ? any() : below(size + 1);
  }

  private int of(int node) {
    List<Integer> list = model.elements(node);
    return list.isEmpty() || below(6) == 0 ? value() : list.get(below(list.size()));
  }

  private int value() {
    return below(30) == 0 ? any() : below(3) == 0 ? below(40) : below(6);
  }

  private int any() {
    return switch (below(5)) {
      case 0 -> Integer.MIN_VALUE + below(2);
      case 1 -> Integer.MAX_VALUE - below(2);
      case 2 -> -1;
      default -> below(30) - 5;
    };
  }

  /** Whether each call answered often enough, and threw often enough all that it may throw. */
  private static boolean cameEverywhere() {
    boolean everywhere = true;
    List<String> due = new ArrayList<>();
    for (String name : ALL) {
      due.add(name + " answers");
      due.add(name + " throws.IllegalArgumentException");
      if (!name.equals("hold") && !name.equals("about")) {
        due.add(name + " throws.IllegalStateException");
      }
    }
    for (String name : new String[] {"part", "at", "insert", "put", "take"}) {
      due.add(name + " throws.IndexOutOfBoundsException");
    }
    for (String name : new String[] {"find", "remove", "mean"}) {
      due.add(name + " throws.NoSuchElementException");
    }
    for (String name : new String[] {"add", "insert", "put", "take", "remove"}) {
      due.add(name + " throws.UnsupportedOperationException");
    }
    for (String outcome : due) {
      if (SEEN.getOrDefault(outcome, 0) < ENOUGH) {
        everywhere = false;
        System.out.println("too seldom: " + outcome + ", " + SEEN.getOrDefault(outcome, 0));
      }
    }
    return everywhere;
  }
}
