import java.util.ArrayList;
import java.util.List;

/**
 * A call that throws changes nothing. Two objects are brought to the same state, and one of them is
 * asked for what it must refuse. Then both must show the same, all of it, and both must do the same
 * when they are changed.
 */
public final class UnchangedTest {
  private static final String[] CHANGES = {
    "add %d 50", "insert %d 0 50", "put %d 0 50", "take %d 0", "hold 2 %d"
  };

  private static int refused;
  private static int compared;
  private static int wrong;

  public static void main(String[] args) {
    ofAllSorts();
    fullList();
    fullMap();
    allMade();
    highAndWide();
    System.out.println(
        "UnchangedTest: " + refused + " refused, " + compared + " compared, " + wrong + " wrong");
    System.exit(wrong == 0 && compared > 0 ? 0 : 1);
  }

  private static void ofAllSorts() {
    // 0 LIST, 1 MULTIMAP, 2 nothing, 3 a STALE PART, 4 a PART that is not, 5 REVERSED over it,
    // 6 VALUES, 7 KEYS, 8 UNION of 4 and 1, 9 SHIFTED over 4.
    String ground =
        "make 0 0, add 0 1, add 0 2, add 0 3, part 3 0 0 2, add 0 4, part 4 0 1 4, reversed 5 4,"
            + "make 1 6, ofMap 6 1 3, add 6 9, ofMap 2 1 0, add 2 2, add 6 1, ofMap 7 1 8,"
            + "combine 8 9 4 1, shifted 9 4 10, hold 2 -1";
    unchanged(
        ground,
        "IllegalArgumentException",
        "make 10 0, make -1 6, make 0 1, make 2 2, make 2 -1, copy 10 1 0, copy 0 0 0, copy 2 3 0,"
            + "copy 2 1 2, copy 2 1 10, reversed 2 1, reversed 2 7, reversed 2 8, reversed 2 2,"
            + "reversed 10 0, reversed 0 10, part 2 1 0 0, part 2 2 0 0, part 10 0 0 0,"
            + "shifted 2 1 1, shifted -1 0 1, shifted 2 8 1, ofMap 2 0 0, ofMap 2 1 9,"
            + "ofMap 2 1 -1, ofMap 10 1 0, combine 2 8 0 0, combine 2 12 0 0, combine 2 9 2 0,"
            + "combine 2 9 0 2, combine -1 9 0 0, hold 10 0, hold 0 10, hold 0 -2, hold -1 -1,"
            + "size 2, at 2 0, find 2 0, add 2 5, add 10 5, insert 2 0 5, put 2 0 5, take 2 0,"
            + "remove 2 1, mean 2, alike 0 2, alike 2 0, about 2 0, about 0 5, about 7 3,"
            + "about 8 3");
    unchanged(
        ground,
        "UnsupportedOperationException",
        "add 1 5, add 7 5, add 8 5, add 9 5, insert 1 0 5, insert 7 0 5, insert 8 0 5,"
            + "insert 9 0 5, insert 9 99 5, put 1 0 5, put 7 0 5, put 8 0 5, put 9 0 5, put 9 9 5,"
            + "take 8 0, take 8 99, remove 8 2, remove 8 99");
    unchanged(
        ground,
        "IllegalStateException",
        "copy 2 1 3, copy 0 2 3, reversed 2 3, part 2 3 0 1, shifted 2 3 1, combine 2 9 3 0,"
            + "combine 2 9 0 3, combine 0 11 3 3, size 3, at 3 0, find 3 1, mean 3, alike 3 0,"
            + "alike 0 3, add 3 5, insert 3 0 5, put 3 0 5, take 3 0, remove 3 1, remove 3 99,"
            + "combine 2 9 8 8");
    unchanged(
        ground,
        "IndexOutOfBoundsException",
        "part 2 0 0 5, part 2 0 -1 1, part 0 0 2 1, part 2 4 0 4, at 0 4, at 4 3, at 7 -1,"
            + "insert 0 5 5, insert 0 -1 5, insert 4 4 5, insert 5 4 5, insert 6 3 5, put 0 4 5,"
            + "put 4 3 5, put 5 -1 5, put 6 2 5, take 0 4, take 1 3, take 4 3, take 5 3, take 6 2,"
            + "take 7 2, take 9 3, take 9 -1");
    unchanged(
        ground,
        "NoSuchElementException",
        "find 0 9, find 4 1, find 9 2, remove 0 9, remove 1 3, remove 4 1, remove 5 1, remove 6 2,"
            + "remove 7 1, remove 9 2, remove 9 11");
    unchanged(
        ground + ",part 9 0 1 1, take 1 0, take 1 0, take 1 0",
        "NoSuchElementException",
        "mean 9, mean 1, mean 6, mean 7, remove 9 2, remove 1 1, remove 6 9, remove 7 3");
  }

  private static void fullList() {
    StringBuilder ground = new StringBuilder("make 0 0");
    for (int i = 1; i <= 16; i++) {
      ground.append(",add 0 ").append(i);
    }
    ground.append(",part 1 0 2 6, part 3 1 1 3, reversed 4 3, part 5 4 0 1, reversed 6 0,");
    ground.append("part 7 0 9 9");
    unchanged(
        ground.toString(),
        "IllegalStateException",
        "add 0 5, add 1 5, add 3 5, add 4 5, add 5 5, add 6 5, add 7 5, insert 0 0 5,"
            + "insert 0 16 5, insert 1 2 5, insert 3 0 5, insert 4 2 5, insert 5 0 5,"
            + "insert 6 16 5, insert 7 0 5");
    unchanged(
        ground.toString(),
        "IndexOutOfBoundsException",
        "insert 0 17 5, insert 1 5 5, insert 3 3 5, insert 4 3 5, insert 5 2 5, insert 7 1 5");
  }

  private static void fullMap() {
    StringBuilder ground = new StringBuilder("make 0 6, ofMap 1 0 6, ofMap 3 0 2, ofMap 4 0 0");
    for (int i = 1; i <= 23; i++) {
      ground.append(",add 1 ").append(i);
    }
    ground.append(",add 4 1, ofMap 5 0 8, part 6 3 0 0, reversed 7 3, part 8 1 1 2");
    unchanged(
        ground.toString(),
        "IllegalStateException",
        "add 1 5, add 3 5, add 4 5, add 6 5, add 7 5, add 8 5, insert 1 0 5, insert 3 0 5,"
            + "insert 4 1 5, insert 6 0 5, insert 7 0 5, insert 8 1 5");
    unchanged(
        ground.toString(),
        "IndexOutOfBoundsException",
        "insert 3 1 5, put 3 0 5, take 3 0, take 0 24, take 5 2, insert 4 2 5, take 6 0");
  }

  private static void allMade() {
    StringBuilder ground = new StringBuilder("make 0 0, add 0 1, make 1 6, copy 3 1 0");
    for (int i = 4; i <= 40; i++) {
      ground.append(",make 4 ").append(i % 2 * 6);
    }
    unchanged(
        ground.toString(),
        "IllegalStateException",
        "make 2 0, make 0 0, make 1 6, make 3 6, copy 2 1 0, copy 0 2 0, copy 3 1 0, reversed 2 0,"
            + "reversed 0 0, part 2 0 0 1, part 0 0 0 0, shifted 2 0 1, shifted 0 0 1, ofMap 2 1 0,"
            + "ofMap 1 1 8, combine 2 9 0 1, combine 0 10 0 1, combine 1 11 0 1");
  }

  private static void highAndWide() {
    StringBuilder ground = new StringBuilder("make 0 0, add 0 1, make 1 6, ofMap 2 1 0, add 2 7");
    ground.append(",combine 3 9 0 1, combine 4 9 3 1, reversed 5 0, part 5 5 0 1, shifted 5 5 1");
    ground.append(",reversed 5 5, part 6 5 0 1, hold 2 -1");
    unchanged(
        ground.toString(),
        "IllegalStateException",
        "combine 2 9 4 0, combine 2 10 0 4, combine 3 11 3 3, combine 0 9 4 4, reversed 2 6,"
            + "part 2 6 0 1, shifted 2 6 1, reversed 6 6, part 0 6 0 0, combine 2 9 6 0,"
            + "combine 2 9 0 6, combine 1 9 1 6");
    StringBuilder many = new StringBuilder("make 0 0, make 1 6, ofMap 2 1 0");
    for (int i = 0; i < 24; i++) {
      many.append(",add 2 ").append(i);
    }
    many.append(",add 0 99, combine 3 9 0 1, hold 2 -1");
    unchanged(
        many.toString(),
        "IllegalStateException",
        "copy 2 1 3, copy 2 2 3, copy 3 1 3, copy 0 2 3");
  }

  private static void unchanged(String ground, String thrown, String calls) {
    for (String call : calls.split(",")) {
      refused++;
      LiveCollections x = at(ground);
      check(call, "throws." + thrown, answer(x, call));
      check("all behind " + call, all(at(ground)), all(x));
      for (int handle = 0; handle <= 9; handle++) {
        for (String change : CHANGES) {
          changeBehind(ground, call, change.formatted(handle));
        }
      }
    }
  }

  private static void changeBehind(String ground, String call, String change) {
    LiveCollections x = at(ground);
    LiveCollections twin = at(ground);
    answer(x, call);
    check(change + " behind " + call, answer(twin, change), answer(x, change));
    check("all behind " + change + " behind " + call, all(twin), all(x));
  }

  private static LiveCollections at(String ground) {
    LiveCollections x = new LiveCollections();
    for (String call : ground.split(",")) {
      String got = answer(x, call);
      if (got.startsWith("throws.")) {
        check("on the way: " + call, "an answer", got);
      }
    }
    return x;
  }

  private static String answer(LiveCollections x, String call) {
    String[] words = call.trim().split(" ");
    int[] arguments = new int[words.length - 1];
    for (int i = 0; i < arguments.length; i++) {
      arguments[i] = Integer.parseInt(words[i + 1]);
    }
    return Calls.answer(x, words[0], arguments);
  }

  /** All that can be seen; last how many NODES were made, which makes one. */
  private static String all(LiveCollections x) {
    List<String> seen = new ArrayList<>();
    for (int handle = 0; handle <= 9; handle++) {
      for (int what = 0; what <= 4; what++) {
        seen.add(Calls.answer(x, "about", handle, what));
      }
      seen.add(Calls.answer(x, "show", handle));
      seen.add(Calls.answer(x, "mean", handle));
    }
    seen.add(Calls.answer(x, "make", 2, 0));
    return seen.toString();
  }

  private static void check(String what, String due, String got) {
    compared++;
    if (!got.equals(due)) {
      wrong++;
      System.out.println(what + ": " + got + ", due is " + due);
    }
  }
}
