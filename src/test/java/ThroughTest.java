import java.util.ArrayList;
import java.util.Collections;
import java.util.List;

/** TO INSERT, TO TAKE and TO PUT: what comes of them below, at every place, and who can't. */
public final class ThroughTest {
  private static final Scripts SCRIPTS = new Scripts();

  // LIST 0: 1 2 3 4; 1 its REVERSED, 2 the PART 2 3, 3 SHIFTED.
  private static final String GROUND =
      """
      make 0 0, add 0 1, add 0 2, add 0 3, add 0 4 = answers
      reversed 1 0, part 2 0 1 3, shifted 3 0 10 = answers
      """;

  public static void main(String[] args) {
    for (int i = 0; i <= 4; i++) {
      insertIntoReversed(i);
    }
    for (int i = 0; i < 4; i++) {
      takeFromReversed(i);
      putIntoReversed(i);
      takeFromShifted(i);
    }
    insertIntoPart();
    partFromTheStart();
    partToTheEnd();
    partOfNothing();
    takeFromPart();
    putIntoPart();
    intoValues();
    partOfValues();
    reversedOfValues();
    takeFromMultimap();
    takeFromKeys();
    manyBelow();
    shiftedOverOthers();
    notSupportedOverCopies();
    notSupportedOverShifted();
    supportedWhereOnlyBeside();
    SCRIPTS.end("ThroughTest");
  }

  private static List<Integer> ground() {
    return new ArrayList<>(List.of(1, 2, 3, 4));
  }

  private static String show(List<Integer> below) {
    List<Integer> turned = new ArrayList<>(below);
    Collections.reverse(turned);
    return "show 0 = " + Kinds.text(below) + "\nshow 1 = " + Kinds.text(turned) + "\n";
  }

  private static void insertIntoReversed(int i) {
    List<Integer> below = ground();
    below.add(4 - i, 9);
    SCRIPTS.run(
        "REVERSED: INSERT into the BASE at its number of ELEMENTS less i",
        GROUND + "insert 1 " + i + " 9 = 5\n" + show(below));
  }

  private static void takeFromReversed(int i) {
    List<Integer> below = ground();
    int taken = below.remove(4 - i - 1);
    SCRIPTS.run(
        "REVERSED: TAKE from the BASE at its number of ELEMENTS less i less 1",
        GROUND + "take 1 " + i + " = " + taken + "\n" + show(below));
    SCRIPTS.run(
        "REVERSED: TAKE, by the int",
        GROUND + "remove 1 " + taken + " = " + i + "\n" + show(below));
  }

  private static void putIntoReversed(int i) {
    List<Integer> below = ground();
    int old = below.set(4 - i - 1, 9);
    SCRIPTS.run(
        "REVERSED: PUT likewise in the BASE",
        GROUND + "put 1 " + i + " 9 = " + old + "\n" + show(below) + "about 0 3 = 4\n");
  }

  private static void takeFromShifted(int i) {
    List<Integer> below = ground();
    int taken = below.remove(i) + 10;
    SCRIPTS.run(
        "SHIFTED: TAKE from the BASE at i",
        GROUND + "take 3 " + i + " = " + taken + "\n" + show(below) + "about 3 3 = 5\n");
    SCRIPTS.run(
        "SHIFTED: TAKE, by the int",
        GROUND + "remove 3 " + taken + " = " + i + "\n" + show(below));
  }

  private static void insertIntoPart() {
    for (int i = 0; i <= 2; i++) {
      List<Integer> below = ground();
      below.add(1 + i, 9);
      String here = Kinds.text(below.subList(1, 4));
      SCRIPTS.run(
          "PART: INSERT into the BASE at START plus i; the LENGTH rises",
          GROUND + "insert 2 " + i + " 9 = 3\n" + show(below) + "show 2 = " + here + "\n");
    }
    SCRIPTS.run(
        "PART: INSERT past its own ELEMENTS, though the BASE has more",
        GROUND + "insert 2 3 9, insert 2 -1 9, insert 2 MAX 9 = !IOOBE\n" + show(ground()));
  }

  private static void partFromTheStart() {
    SCRIPTS.run(
        "PART: from START 0",
        GROUND
            + """
            part 9 0 0 2 = 5
            insert 9 0 8 = 3
            add 9 9 = 4
            show 9 = 8 1 2 9
            show 0 = 8 1 2 9 3 4
            take 9 0 = 8
            take 9 2 = 9
            show 9 = 1 2
            show 0 = 1 2 3 4
            """);
  }

  private static void partToTheEnd() {
    SCRIPTS.run(
        "PART: to the BASE's end",
        GROUND
            + """
            part 9 0 2 4 = 5
            add 9 9 = 3
            insert 9 0 8 = 4
            show 9 = 8 3 4 9
            show 0 = 1 2 8 3 4 9
            take 9 3 = 9
            take 9 0 = 8
            show 9 = 3 4
            show 0 = 1 2 3 4
            """);
  }

  private static void partOfNothing() {
    for (int i = 0; i <= 4; i++) {
      List<Integer> below = ground();
      below.add(i, 9);
      SCRIPTS.run(
          "PART: without ELEMENTS, at " + i,
          GROUND
              + ("part 9 0 " + i + " " + i + " = 5\n")
              + """
              insert 9 1 9, take 9 0, put 9 0 9 = !IOOBE
              remove 9 1 = !NSEE
              insert 9 0 9 = 1
              show 9 = 9
              """
              + show(below)
              + "take 9 0 = 9\nsize 9 = 0\n"
              + show(ground()));
    }
  }

  private static void takeFromPart() {
    for (int i = 0; i < 2; i++) {
      List<Integer> below = ground();
      int taken = below.remove(1 + i);
      SCRIPTS.run(
          "PART: TAKE from the BASE at START plus i; the LENGTH falls",
          GROUND
              + ("take 2 " + i + " = " + taken + "\n")
              + show(below)
              + ("size 2 = 1\nat 2 0 = " + (5 - taken) + "\nat 2 1, take 2 1 = !IOOBE\n"));
    }
    SCRIPTS.run(
        "PART: TAKE outside its own ELEMENTS, though the BASE has them",
        GROUND + "take 2 2, take 2 -1 = !IOOBE\nremove 2 1, remove 2 4 = !NSEE\n" + show(ground()));
  }

  private static void putIntoPart() {
    for (int i = 0; i < 2; i++) {
      List<Integer> below = ground();
      int old = below.set(1 + i, 9);
      SCRIPTS.run(
          "PART: PUT likewise in the BASE",
          GROUND + "put 2 " + i + " 9 = " + old + "\n" + show(below) + "size 2 = 2\n");
    }
    SCRIPTS.run(
        "PART: PUT outside its own ELEMENTS, though the BASE has them",
        GROUND + "put 2 2 9, put 2 -1 9 = !IOOBE\n" + show(ground()));
  }

  // MULTIMAP 0: 1 2 for the key 4, 3 4 for 7, 5 6 for 0; VALUES 1, 2 and 3, KEYS 4.
  private static final String MAP =
      """
      make 0 6, ofMap 1 0 4, ofMap 2 0 7, ofMap 3 0 0, ofMap 4 0 8 = answers
      add 1 1, add 2 3, add 3 5, add 2 4, add 3 6, add 1 2 = answers
      show 0 = 1 2 3 4 5 6
      show 4 = 4 7 0
      """;

  private static void intoValues() {
    SCRIPTS.run(
        "VALUES: it is put in there, the int is taken out, the int there becomes v",
        MAP
            + """
            insert 2 0 7 = 3
            insert 2 3 8 = 4
            insert 2 1 9 = 5
            show 2 = 7 9 3 4 8
            show 0 = 1 2 7 9 3 4 8 5 6
            insert 2 6 1, put 2 5 1, take 2 5, insert 2 -1 1, put 2 -1 1, take 2 -1 = !IOOBE
            put 2 4 0 = 8
            put 2 0 10 = 7
            take 2 1 = 9
            remove 2 4 = 2
            show 0 = 1 2 10 3 0 5 6
            remove 2 5, remove 2 1 = !NSEE      # of other keys
            take 3 0 = 5
            take 1 1 = 2
            show 0 = 1 10 3 0 6
            """);
  }

  private static void partOfValues() {
    SCRIPTS.run(
        "PART over VALUES",
        MAP
            + """
            part 5 2 1 2 = 6
            show 5 = 4
            insert 5 0 8 = 2
            add 5 9 = 3
            show 5 = 8 4 9
            show 0 = 1 2 3 8 4 9 5 6
            put 5 2 10 = 9
            take 5 1 = 4
            show 0 = 1 2 3 8 10 5 6
            insert 5 3 1, take 5 2, put 5 2 1 = !IOOBE
            take 5 1 = 10
            take 5 0 = 8
            show 0 = 1 2 3 5 6
            """);
  }

  private static void reversedOfValues() {
    SCRIPTS.run(
        "REVERSED over VALUES",
        MAP
            + """
            reversed 5 2 = 6
            show 5 = 4 3
            insert 5 0 8 = 3
            add 5 9 = 4
            insert 5 2 7 = 5
            show 0 = 1 2 9 3 7 4 8 5 6
            put 5 0 0 = 8
            take 5 4 = 9
            remove 5 7 = 2
            show 0 = 1 2 3 4 0 5 6
            take 5 0 = 0
            take 5 0 = 4
            take 5 0 = 3
            show 4 = 4 0
            add 5 1 = 1                     # the key is THERE then
            show 4 = 4 0 7
            show 0 = 1 2 5 6 1
            """);
  }

  private static void takeFromMultimap() {
    String[] left = {"2 3 4 5 6", "1 3 4 5 6", "1 2 4 5 6", "1 2 3 5 6", "1 2 3 4 6", "1 2 3 4 5"};
    for (int i = 0; i < 6; i++) {
      int view = 1 + i / 2;
      String then =
          ("show 0 = " + left[i] + "\nshow 4 = 4 7 0\n")
              + ("size " + view + " = 1\nabout " + view + " 3 = 3\n")
              + ("find " + view + " " + (i + 1) + " = !NSEE\n");
      String title = "MULTIMAP: the int is taken out of its key's list";
      SCRIPTS.run(title, MAP + "take 0 " + i + " = " + (i + 1) + "\n" + then);
      SCRIPTS.run(title, MAP + "remove 0 " + (i + 1) + " = " + i + "\n" + then);
    }
    SCRIPTS.run(
        "MULTIMAP: the first place of an int that more than one key has",
        MAP
            + """
            add 3 1 = 3
            add 3 4 = 4
            remove 0 4 = 3
            show 0 = 1 2 3 5 6 1 4
            remove 0 4 = 6
            remove 0 4 = !NSEE
            remove 0 1 = 0
            show 0 = 2 3 5 6 1
            about 1 3, about 2 3 = 3
            about 3 3 = 5
            """);
  }

  private static void takeFromKeys() {
    String[] keys = {"4", "7", "0"};
    String[] left = {"3 4 5 6", "1 2 5 6", "1 2 3 4"};
    String[] keysLeft = {"7 0", "4 0", "4 7"};
    for (int i = 0; i < 3; i++) {
      int view = 1 + i;
      String then =
          ("show 0 = " + left[i] + "\nshow 4 = " + keysLeft[i] + "\n")
              + ("size " + view + " = 0\nabout " + view + " 3 = 4\n")
              + ("add " + view + " 9 = 1\nshow 0 = " + left[i] + " 9\n")
              + ("show 4 = " + keysLeft[i] + " " + keys[i] + "\n");
      String title = "KEYS: all ints of that key are taken out, each counting";
      SCRIPTS.run(title, MAP + "take 4 " + i + " = " + keys[i] + "\n" + then);
      SCRIPTS.run(title, MAP + "remove 4 " + keys[i] + " = " + i + "\n" + then);
    }
    SCRIPTS.run(
        "KEYS: a key that is not THERE, and places that there are not",
        MAP
            + """
            remove 4 1, remove 4 5, remove 4 8, remove 4 -1 = !NSEE
            take 4 3, take 4 -1, take 4 MAX = !IOOBE
            show 0 = 1 2 3 4 5 6
            about 1 3, about 2 3, about 3 3 = 2
            """);
  }

  private static void manyBelow() {
    SCRIPTS.run(
        "TO INSERT, TO TAKE and TO PUT: through five of them",
        GROUND
            + """
            part 4 1 0 3 = 5        # 4 3 2
            reversed 5 4 = 6        # 2 3 4
            part 6 5 1 3 = 7        # 3 4
            reversed 7 6 = 8        # 4 3
            about 7 2 = 6
            insert 7 1 9 = 3        # 4 9 3
            show 7 = 4 9 3
            show 6 = 3 9 4
            show 5 = 2 3 9 4
            show 4 = 4 9 3 2
            show 0 = 1 2 3 9 4
            put 7 2 8 = 3
            show 0 = 1 2 8 9 4
            take 7 0 = 4
            show 0 = 1 2 8 9
            add 7 7 = 3
            show 7 = 9 8 7
            show 0 = 1 2 7 8 9
            remove 7 8 = 1
            show 0 = 1 2 7 9
            show 4 = 9 7 2
            insert 7 3 1, take 7 2, put 7 2 1 = !IOOBE
            size 2 = !ISE           # the PART that is not on the way
            """);
  }

  private static void shiftedOverOthers() {
    SCRIPTS.run(
        "TO TAKE: through SHIFTED and what it stands over, and under it",
        GROUND
            + """
            shifted 4 1 100 = 5     # 104 103 102 101
            take 4 1 = 103
            show 0 = 1 2 4
            part 5 4 0 2 = 6        # 104 102
            reversed 6 5 = 7        # 102 104
            shifted 7 6 1 = 8       # 103 105
            take 7 0 = 103
            show 0 = 1 4
            remove 6 104 = 0
            show 0 = 1
            size 5, size 6, size 7 = 0
            part 8 0 0 1 = 9
            shifted 9 8 -1 = 10
            take 9 0 = 0
            size 0, size 8, size 9 = 0
            """);
  }

  private static void notSupportedOverCopies() {
    String[] stacks = {
      "reversed 9 8", "part 9 8 0 2", "shifted 9 8 1", "reversed 7 8, reversed 9 7",
      "part 7 8 0 2, part 9 7 0 1", "shifted 7 8 1, part 6 7 0 2, reversed 9 6",
      "reversed 7 8, part 6 7 0 2, reversed 5 6, part 4 5 0 2, reversed 9 4"
    };
    for (int kind = 1; kind <= 2; kind++) {
      for (String stack : stacks) {
        SCRIPTS.run(
            "not SUPPORTED: a FROZEN or SORTED below: " + stack,
            GROUND
                + ("copy 8 " + kind + " 0, " + stack + " = answers\n")
                + """
                add 9 1, insert 9 0 1, insert 9 9 1, put 9 0 1, put 9 9 1 = !UOE
                take 9 0, take 9 9, remove 9 2, remove 9 99 = !UOE
                show 8 = 1 2 3 4
                """
                + show(ground()));
      }
    }
  }

  private static void notSupportedOverShifted() {
    String[] stacks = {
      "hold 9 3", "reversed 9 3", "part 9 3 0 4", "shifted 9 3 1", "reversed 7 3, part 9 7 0 4",
      "part 7 3 0 4, reversed 9 7", "part 7 0 0 4, shifted 6 7 1, reversed 9 6",
      "reversed 7 0, shifted 6 7 0, part 9 6 0 4",
      "part 7 3 0 4, part 6 7 0 4, reversed 5 6, reversed 9 5"
    };
    for (String stack : stacks) {
      SCRIPTS.run(
          "not SUPPORTED: a SHIFTED below, but for TAKE: " + stack,
          GROUND
              + (stack + " = answers\n")
              + """
              add 9 1, insert 9 0 1, insert 9 4 1, insert 9 9 1, put 9 0 1, put 9 -1 1 = !UOE
              about 9 4 = 0
              """
              + show(ground())
              + """
              take 9 4 = !IOOBE
              remove 9 999 = !NSEE
              take 9 0, take 9 0, take 9 0, take 9 0 = answers
              size 9, size 0 = 0
              take 9 0 = !IOOBE
              """);
    }
  }

  private static void supportedWhereOnlyBeside() {
    SCRIPTS.run(
        "SUPPORTED: a SHIFTED or a FROZEN beside it, or over it, does not count",
        GROUND
            + """
            copy 4 1 0, shifted 5 2 1, reversed 6 2 = answers
            add 2 9 = 3
            put 6 0 8 = 9
            take 6 2 = 2
            show 0 = 1 3 8 4
            show 5 = 4 9
            """);
    SCRIPTS.run(
        "not SUPPORTED: UNION, INTERSECTION, DIFFERENCE, whatever they are of",
        GROUND
            + """
            make 8 6, ofMap 7 8 8, combine 4 9 0 8, combine 5 10 0 0, combine 6 11 4 7 = answers
            add 4 1, insert 4 0 1, put 4 0 1, take 4 0, remove 4 1, remove 4 99, take 4 9 = !UOE
            add 5 1, insert 5 0 1, put 5 0 1, take 5 0, remove 5 1, insert 5 9 1, put 5 9 1 = !UOE
            add 6 1, insert 6 0 1, put 6 0 1, take 6 0, remove 6 1, take 6 -1 = !UOE
            show 4 = 1 2 3 4
            """
            + show(ground()));
  }
}
