import java.util.ArrayList;
import java.util.List;

/** A NODE of each KIND in handle 9, for the tests that go through all KINDS. */
final class Kinds {
  static final int COUNT = 12;

  /**
   * LIST, FROZEN, SORTED, REVERSED, PART, SHIFTED and VALUES, as the document says; and who can do
   * what with the NODES that are made here, which have nothing but a LIST or MULTIMAP below them.
   */
  static final List<Integer> ROWS = List.of(0, 1, 2, 3, 4, 5, 7);

  static final List<Integer> WRITABLE = List.of(0, 3, 4, 7);
  static final List<Integer> TAKABLE = List.of(0, 3, 4, 5, 6, 7, 8);

  /** The LIST 0 with 4 2 4 1; the MULTIMAP 1 with 2 3 for the key 3, its VALUES 2, 4 for 5. */
  private static final String GROUND =
      """
      make 0 0, make 1 6, ofMap 2 1 5, ofMap 2 1 3 = answers
      add 0 4, add 0 2, add 0 4, add 0 1, add 2 2, add 2 3 = answers
      ofMap 3 1 5, add 3 4, hold 3 -1 = answers
      """;

  private static final String[] MADE = {
    "hold 9 0", "copy 9 1 0", "copy 9 2 0", "reversed 9 0", "part 9 0 1 3", "shifted 9 0 10",
    "hold 9 1", "ofMap 9 1 3", "ofMap 9 1 8", "combine 9 9 0 1", "combine 9 10 0 1",
    "combine 9 11 0 1"
  };

  private static final int[][] ELEMENTS = {
    {4, 2, 4, 1}, {4, 2, 4, 1}, {1, 2, 4}, {1, 4, 2, 4}, {2, 4}, {14, 12, 14, 11},
    {2, 3, 4}, {2, 3}, {3, 5}, {4, 2, 1, 3}, {4, 2}, {1}
  };

  private static final String[] MADE_EMPTY = {
    "make 9 0", "make 0 0, copy 9 1 0", "make 0 6, copy 9 2 0", "make 0 0, reversed 9 0",
    "make 0 0, add 0 1, part 9 0 1 1", "make 0 0, shifted 9 0 10", "make 9 6",
    "make 0 6, ofMap 9 0 7", "make 0 6, ofMap 9 0 8", "make 0 0, combine 9 9 0 0",
    "make 0 0, make 1 0, add 0 1, add 1 2, combine 9 10 0 1",
    "make 0 0, add 0 1, add 0 2, combine 9 11 0 0"
  };

  private static final String[] MADE_STALE = {
    "part 9 0 0 2", "part 8 0 0 2, reversed 9 8", "part 8 0 0 2, shifted 9 8 1",
    "part 8 0 0 3, part 9 8 0 1",
    "part 8 0 0 2, reversed 7 8, part 6 7 0 1, shifted 5 6 1, reversed 9 5",
    "part 8 0 0 2, combine 9 9 8 1", "part 8 0 0 2, combine 9 9 1 8",
    "part 8 0 0 2, combine 9 10 0 8", "part 8 0 0 2, combine 9 11 8 0",
    "part 8 0 0 2, combine 7 9 8 1, combine 9 9 7 1",
    "part 8 0 0 2, combine 7 9 8 1, combine 9 9 1 7",
    "part 8 0 0 2, combine 7 10 1 8, combine 9 11 7 1",
    "part 8 0 0 2, reversed 7 8, combine 6 10 1 7, combine 9 11 1 6"
  };

  private Kinds() {}

  /** Makes a NODE of this KIND. */
  static String made(int kind) {
    return GROUND + MADE[kind] + " = answers\n";
  }

  /** The ELEMENTS of what is made. */
  static List<Integer> elements(int kind) {
    List<Integer> list = new ArrayList<>();
    for (int v : ELEMENTS[kind]) {
      list.add(v);
    }
    return list;
  }

  /** Makes a NODE of this KIND without ELEMENTS. */
  static String madeEmpty(int kind) {
    return MADE_EMPTY[kind] + " = answers\n";
  }

  /** Makes NODES that are STALE, or have a STALE one below, each in its own way. */
  static List<String> madeStale() {
    List<String> scripts = new ArrayList<>();
    for (String made : MADE_STALE) {
      scripts.add(GROUND + made + ", add 0 7 = answers\nhold 4 -1 = -1\n");
    }
    return scripts;
  }

  /** How a list reads in a script. */
  static String text(List<Integer> list) {
    StringBuilder text = new StringBuilder();
    for (int i = 0; i < list.size(); i++) {
      text.append(i == 0 ? "" : " ").append(list.get(i));
    }
    return text.toString();
  }
}
