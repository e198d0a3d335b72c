/** The document's Terms: what a NODE of each KIND is, a sentence at a time. */
public final class TermsTest {
  private static final Scripts SCRIPTS = new Scripts();

  public static void main(String[] args) {
    list();
    frozen();
    sorted();
    reversed();
    part();
    shiftedWraps();
    multimap();
    keysThereLast();
    everyWayOutOfTheKeys();
    values();
    keys();
    union();
    intersection();
    difference();
    ofTheSame();
    liveOverList();
    liveOverMap();
    liveOfTwo();
    leaves();
    leavesAtMost();
    height();
    heightAtMost();
    changesOfList();
    changesOfValues();
    changesOfCopies();
    changesOfOthers();
    noChange();
    SCRIPTS.end("TermsTest");
  }

  private static void list() {
    SCRIPTS.run(
        "LIST: ints that are put in and taken out",
        """
        make 0 0 = 1
        add 0 MAX = 1
        insert 0 0 MIN = 2
        insert 0 1 0 = 3
        add 0 MIN = 4           # an int may be in it more than once
        show 0 = -2147483648 0 2147483647 -2147483648
        take 0 0 = MIN
        take 0 2 = MIN
        take 0 1 = MAX
        take 0 0 = 0
        size 0 = 0
        """);
  }

  private static void frozen() {
    SCRIPTS.run(
        "FROZEN: the ELEMENTS that another NODE had when it was made, for good",
        """
        make 0 0 = 1
        add 0 3 = 1
        add 0 1 = 2
        add 0 3 = 3
        reversed 1 0 = 2
        part 2 0 1 3 = 3
        shifted 3 0 10 = 4
        copy 4 1 0 = 5
        copy 5 1 1 = 6
        copy 6 1 2 = 7
        copy 7 1 3 = 8
        copy 8 1 4 = 9          # of a FROZEN
        put 0 0 9 = 3
        take 0 1 = 1
        add 0 5 = 3
        insert 0 0 6 = 4
        size 2 = !ISE
        show 4 = 3 1 3
        show 5 = 3 1 3
        show 6 = 1 3            # of a PART that is STALE by now
        show 7 = 13 11 13
        show 8 = 3 1 3
        hold 0 -1, hold 1 -1, hold 2 -1, hold 3 -1, hold 4 -1 = -1
        show 5 = 3 1 3
        show 7 = 13 11 13
        show 8 = 3 1 3
        """);
    SCRIPTS.run(
        "FROZEN, of a MULTIMAP, of KEYS and of two",
        """
        make 0 6 = 1
        ofMap 1 0 5 = 2
        ofMap 2 0 2 = 3
        ofMap 3 0 8 = 4
        combine 4 9 3 0 = 5
        add 1 7 = 1
        add 2 5 = 1
        copy 5 1 0 = 6
        copy 6 1 3 = 7
        copy 7 1 4 = 8
        copy 8 1 1 = 9
        take 3 0 = 5
        take 3 0 = 2
        size 0, size 4 = 0
        show 5 = 7 5
        show 6 = 5 2
        show 7 = 5 2 7
        show 8 = 7
        """);
  }

  private static void sorted() {
    SCRIPTS.run(
        "SORTED: likewise, each int once, in rising order",
        """
        make 0 0 = 1
        copy 1 2 0 = 2
        size 1 = 0
        add 0 0 = 1
        copy 1 2 0 = 3
        show 1 = 0
        add 0 MAX = 2
        add 0 -1 = 3
        add 0 MIN = 4
        add 0 1 = 5
        add 0 MIN = 6
        add 0 MAX = 7
        add 0 0 = 8
        copy 2 2 0 = 4
        show 2 = -2147483648 -1 0 1 2147483647
        show 0 = 0 2147483647 -1 -2147483648 1 -2147483648 2147483647 0     # as it was
        copy 3 2 2 = 5
        alike 2 3 = true        # of one in that order already
        reversed 4 2 = 6
        copy 5 2 4 = 7          # of a falling one
        alike 2 5 = true
        put 0 1 5 = MAX
        take 0 0 = 0
        add 0 9 = 8
        show 2 = -2147483648 -1 0 1 2147483647
        hold 0 -1, hold 2 -1 = -1
        show 5 = -2147483648 -1 0 1 2147483647
        make 0 0 = 8
        add 0 4 = 1
        add 0 4 = 2
        add 0 4 = 3
        copy 1 2 0 = 9
        show 1 = 4
        add 0 5 = 4
        add 0 5 = 5
        add 0 6 = 6
        copy 1 2 0 = 10
        show 1 = 4 5 6
        reversed 2 0 = 11
        copy 1 2 2 = 12
        show 1 = 4 5 6
        """);
  }

  private static void reversed() {
    SCRIPTS.run(
        "REVERSED over a BASE: its ELEMENTS from the last to the first",
        """
        make 0 0 = 1
        reversed 1 0 = 2
        reversed 2 1 = 3
        size 1, size 2 = 0
        add 0 1 = 1
        show 1 = 1
        add 0 2 = 2
        show 1 = 2 1
        add 0 3 = 3
        show 1 = 3 2 1
        add 0 4 = 4
        show 1 = 4 3 2 1
        show 2 = 1 2 3 4
        find 1 4 = 0
        find 2 4 = 3
        """);
  }

  private static void part() {
    SCRIPTS.run(
        "PART over a BASE: those from a START on, as many as its LENGTH says",
        """
        make 0 0 = 1
        add 0 5 = 1
        add 0 6 = 2
        add 0 7 = 3
        part 1 0 0 3 = 2
        show 1 = 5 6 7
        part 2 0 0 1 = 3
        show 2 = 5
        part 3 0 2 3 = 4
        show 3 = 7
        part 4 0 1 2 = 5
        show 4 = 6
        part 5 0 0 0 = 6
        part 6 0 1 1 = 7
        part 7 0 3 3 = 8
        size 5, size 6, size 7 = 0
        part 8 1 1 3 = 9
        part 9 8 1 2 = 10       # the START counts from the BASE's own
        show 9 = 7
        """);
  }

  private static void shiftedWraps() {
    SCRIPTS.run(
        "SHIFTED over a BASE: each with a number added (wraps)",
        """
        make 0 0 = 1
        add 0 MAX = 1
        add 0 MIN = 2
        add 0 0 = 3
        add 0 -1 = 4
        shifted 1 0 1 = 2
        show 1 = -2147483648 -2147483647 1 0
        shifted 2 0 -1 = 3
        show 2 = 2147483646 2147483647 -1 -2
        shifted 3 0 MAX = 4
        show 3 = -2 -1 2147483647 2147483646
        shifted 4 0 MIN = 5
        show 4 = -1 0 -2147483648 2147483647
        shifted 5 0 0 = 6
        alike 5 0 = true
        shifted 6 4 MIN = 7     # twice the least number: back again
        alike 6 0 = true
        find 1 MIN, find 4 -1 = 0
        find 1 MAX = !NSEE
        take 1 0 = MIN          # what is taken is told as it was seen
        show 0 = -2147483648 0 -1
        remove 4 MIN = 1
        show 0 = -2147483648 -1
        """);
  }

  private static void multimap() {
    SCRIPTS.run(
        "MULTIMAP: a list for each of the keys 0 .. 7; its ELEMENTS: the lists, one after another",
        """
        make 9 6 = 1
        ofMap 0 9 7 = 2
        add 0 70 = 1
        ofMap 1 9 6 = 3
        ofMap 2 9 5 = 4
        ofMap 3 9 4 = 5
        ofMap 4 9 3 = 6
        ofMap 5 9 2 = 7
        ofMap 6 9 1 = 8
        ofMap 7 9 0 = 9
        ofMap 8 9 8 = 10
        add 7 0 = 1
        add 6 10 = 1
        add 5 20 = 1
        add 4 30 = 1
        add 3 40 = 1
        add 2 50 = 1
        add 1 60 = 1
        show 8 = 7 0 1 2 3 4 5 6
        show 9 = 70 0 10 20 30 40 50 60
        add 0 71 = 2
        insert 7 0 -1 = 2
        insert 4 1 31 = 2
        show 9 = 70 71 -1 0 10 20 30 31 40 50 60
        show 8 = 7 0 1 2 3 4 5 6
        add 1 61 = 2
        add 1 70 = 3            # an int of another key too
        show 1 = 60 61 70
        find 9 70 = 0
        size 9 = 13
        """);
  }

  private static void keysThereLast() {
    SCRIPTS.run(
        "MULTIMAP: the keys in the order in which they came to be THERE last",
        """
        make 0 6 = 1
        ofMap 1 0 1 = 2
        ofMap 2 0 2 = 3
        ofMap 3 0 3 = 4
        ofMap 8 0 8 = 5
        size 8 = 0              # no key is THERE yet
        add 2 20 = 1
        add 1 10 = 1
        add 3 30 = 1
        show 8 = 2 1 3
        add 2 21 = 2            # 2 was THERE
        insert 1 0 11 = 2
        put 3 0 31 = 30
        show 8 = 2 1 3
        show 0 = 20 21 11 10 31
        take 2 1 = 21
        show 8 = 2 1 3          # 2 is THERE yet, by its last int
        take 2 0 = 20
        show 8 = 1 3
        add 2 22 = 1            # 2 comes to be THERE anew
        show 8 = 1 3 2
        show 0 = 11 10 31 22
        take 2 0 = 22
        add 2 23 = 1            # the last one again
        show 8 = 1 3 2
        take 3 0 = 31
        add 3 32 = 1
        show 8 = 1 2 3
        show 0 = 11 10 23 32
        """);
  }

  private static void everyWayOutOfTheKeys() {
    // Each time the first of the keys goes, by its last int, and comes back behind the other.
    String[] ways = {
      "take 1 0 = 10", "remove 1 10 = 0", "take 0 0 = 10", "remove 0 10 = 0", "take 3 0 = 1",
      "remove 3 1 = 0", "take 4 0 = 10", "remove 4 10 = 0", "take 5 0 = 10", "remove 5 10 = 0",
      "take 6 0 = 17", "remove 6 17 = 0"
    };
    String[] back = {"add 1 9 = 1", "insert 1 0 9 = 1", "add 4 9 = 1", "insert 4 0 9 = 1"};
    for (int i = 0; i < ways.length; i++) {
      SCRIPTS.run(
          "MULTIMAP: a key is THERE if its list is not empty: " + ways[i],
          """
          make 0 6, ofMap 1 0 1, ofMap 2 0 2, ofMap 3 0 8 = answers
          add 1 10, add 2 20 = answers
          reversed 4 1, part 5 1 0 1, shifted 6 1 7 = answers
          show 3 = 1 2
          """
              + (ways[i] + "\n")
              + "show 3 = 2\nshow 0 = 20\nsize 1, size 4 = 0\n"
              + (back[i % back.length] + "\n")
              + "show 3 = 2 1\nshow 0 = 20 9\n");
    }
  }

  private static void values() {
    SCRIPTS.run(
        "VALUES of a key of a MULTIMAP: the key's list",
        """
        make 0 6 = 1
        make 1 6 = 2
        ofMap 2 0 0 = 3
        ofMap 3 0 7 = 4
        ofMap 4 1 0 = 5
        ofMap 5 0 0 = 6
        add 2 1 = 1
        add 3 2 = 1
        add 4 3 = 1
        show 2 = 1
        show 3 = 2
        show 4 = 3              # of another MULTIMAP
        show 5 = 1              # another view of the first list
        add 5 4 = 2
        show 2 = 1 4
        hold 0 -1 = -1          # it stays when the MULTIMAP's handle is let go
        add 2 5 = 3
        show 5 = 1 4 5
        """);
  }

  private static void keys() {
    SCRIPTS.run(
        "KEYS of a MULTIMAP: the keys that are THERE",
        """
        make 0 6 = 1
        ofMap 1 0 8 = 2
        ofMap 2 0 0 = 3
        ofMap 3 0 7 = 4
        size 1 = 0
        add 3 0 = 1
        show 1 = 7
        add 2 7 = 1
        show 1 = 7 0
        find 1 7 = 0
        find 1 0 = 1
        find 1 1, find 1 8, find 1 -1 = !NSEE
        add 2 7 = 2
        size 1 = 2              # a key is there once
        mean 1 = 3.5
        ofMap 4 0 8 = 5
        alike 1 4 = true
        take 4 0 = 7            # another view of the same keys
        show 1 = 0
        """);
  }

  // a is 3 1 3 2 1, b is 5 2 5 3 4: each has ints twice, and two are in both.
  private static final String TWO =
      """
      make 0 0, make 1 0, make 8 0 = answers
      add 0 3, add 0 1, add 0 3, add 0 2, add 0 1 = answers
      add 1 5, add 1 2, add 1 5, add 1 3, add 1 4 = answers
      """;

  private static void union() {
    SCRIPTS.run(
        "UNION: each int that is in a or b, once, those from a first, then those from b likewise",
        TWO
            + """
            combine 2 9 0 1 = 4
            show 2 = 3 1 2 5 4
            combine 3 9 1 0 = 5
            show 3 = 5 2 3 4 1
            combine 4 9 0 8 = 6
            show 4 = 3 1 2          # b is empty
            combine 5 9 8 1 = 7
            show 5 = 5 2 3 4        # a is empty
            add 8 4 = 1
            show 5 = 4 5 2 3        # from a now
            show 4 = 3 1 2 4
            """);
  }

  private static void intersection() {
    SCRIPTS.run(
        "INTERSECTION: each int that is in both, once, in the order in which they come first in a",
        TWO
            + """
            combine 2 10 0 1 = 4
            show 2 = 3 2
            combine 3 10 1 0 = 5
            show 3 = 2 3
            combine 4 10 0 8 = 6
            combine 5 10 8 1 = 7
            size 4, size 5 = 0
            add 8 1 = 1
            show 4 = 1
            add 8 3 = 2
            show 4 = 3 1
            show 5 = 3
            """);
  }

  private static void difference() {
    SCRIPTS.run(
        "DIFFERENCE: each int that is in a and not in b, once",
        TWO
            + """
            combine 2 11 0 1 = 4
            show 2 = 1
            combine 3 11 1 0 = 5
            show 3 = 5 4
            combine 4 11 0 8 = 6
            show 4 = 3 1 2          # b is empty
            combine 5 11 8 1 = 7
            size 5 = 0              # a is empty
            add 8 7 = 1
            add 8 3 = 2
            show 4 = 1 2
            show 5 = 7
            """);
  }

  private static void ofTheSame() {
    SCRIPTS.run(
        "UNION, INTERSECTION, DIFFERENCE: of a NODE and itself, and of others of two",
        TWO
            + """
            combine 2 9 0 0 = 4
            combine 3 10 0 0 = 5
            combine 4 11 0 0 = 6
            show 2 = 3 1 2
            show 3 = 3 1 2
            size 4 = 0
            combine 5 9 0 1 = 7     # 3 1 2 5 4
            combine 6 11 5 0 = 8
            show 6 = 5 4
            combine 6 11 0 5 = 9
            size 6 = 0
            combine 6 10 1 5 = 10
            show 6 = 5 2 3 4
            combine 7 10 5 1 = 11
            show 7 = 3 2 5 4
            """);
  }

  private static void liveOverList() {
    SCRIPTS.run(
        "what those below them have at any time: over a LIST",
        """
        make 0 0 = 1
        reversed 1 0 = 2
        shifted 2 1 10 = 3
        reversed 3 2 = 4
        add 0 1 = 1
        part 4 1 0 1 = 5
        shifted 5 4 100 = 6
        show 5 = 101
        put 0 0 2 = 1           # a PUT below is seen by all of them
        show 1 = 2
        show 2 = 12
        show 4 = 2
        show 5 = 102
        add 0 3 = 2
        show 1 = 3 2
        show 2 = 13 12
        show 3 = 12 13
        take 0 0 = 2
        show 2 = 13
        take 0 0 = 3
        size 1, size 2, size 3 = 0
        add 1 4 = 1             # a change through one of them, too
        show 0 = 4
        show 3 = 14
        hold 0 -1, hold 1 -1 = -1
        show 2 = 14             # those below need no handle
        """);
  }

  private static void liveOverMap() {
    SCRIPTS.run(
        "what those below them have at any time: over a MULTIMAP",
        """
        make 0 6 = 1
        ofMap 1 0 2 = 2
        ofMap 2 0 8 = 3
        reversed 3 1 = 4
        shifted 4 3 1 = 5
        ofMap 5 0 2 = 6
        add 1 7 = 1
        add 3 8 = 2
        show 1 = 8 7
        show 3 = 7 8
        show 4 = 8 9
        show 5 = 8 7
        show 0 = 8 7
        show 2 = 2
        put 3 0 6 = 7
        show 0 = 8 6
        show 4 = 7 9
        take 0 0 = 8
        show 1 = 6
        show 3 = 6
        take 2 0 = 2
        size 0, size 1, size 3, size 4, size 5 = 0
        """);
  }

  private static void liveOfTwo() {
    SCRIPTS.run(
        "what those below them have at any time: of two",
        """
        make 0 0 = 1
        make 1 6 = 2
        ofMap 2 1 4 = 3
        combine 3 9 0 1 = 4
        combine 4 10 0 2 = 5
        combine 5 11 0 1 = 6
        combine 6 9 5 2 = 7
        size 3, size 4, size 5, size 6 = 0
        add 0 1 = 1
        show 3 = 1
        size 4 = 0
        show 5 = 1
        show 6 = 1
        add 2 1 = 1
        show 3 = 1
        show 4 = 1
        size 5 = 0
        show 6 = 1
        put 0 0 2 = 1
        show 3 = 2 1
        size 4 = 0
        show 5 = 2
        show 6 = 2 1
        take 0 0 = 2
        show 3 = 1
        show 6 = 1
        """);
  }

  private static void leaves() {
    SCRIPTS.run(
        "LEAVES: 1 for KINDS 0, 1, 2, 6, 7, 8; those of its BASE, or of both",
        """
        make 0 0 = 1
        make 1 6 = 2
        copy 2 1 0 = 3
        copy 3 2 0 = 4
        ofMap 4 1 0 = 5
        ofMap 5 1 8 = 6
        about 0 1, about 1 1, about 2 1, about 3 1, about 4 1, about 5 1 = 1
        reversed 6 4 = 7
        part 7 6 0 0 = 8
        shifted 8 7 1 = 9
        about 6 1, about 7 1, about 8 1 = 1
        combine 9 9 8 0 = 10
        about 9 1 = 2
        combine 9 10 0 0 = 11   # the same one counts for both
        about 9 1 = 2
        combine 8 11 9 5 = 12
        about 8 1 = 3
        combine 8 9 2 9 = 13
        about 8 1 = 3
        copy 7 1 8 = 14         # a copy has 1 again
        copy 6 2 8 = 15
        about 7 1, about 6 1 = 1
        combine 8 9 7 6 = 16
        about 8 1 = 2
        """);
  }

  private static void leavesAtMost() {
    // Handles of 1, 2 and 3 LEAVES, put together in all ways by each KIND of two.
    for (int kind = 9; kind <= 11; kind++) {
      String two = "combine 9 " + kind + " ";
      StringBuilder script = new StringBuilder("make 1 6 = 1\n");
      script.append("combine 2 9 1 1 = 2\ncombine 3 ").append(kind).append(" 2 1 = 3\n");
      int made = 3;
      for (int a = 1; a <= 3; a++) {
        for (int b = 1; b <= 3; b++) {
          String due = a + b <= 3 ? "" + ++made : "!ISE";
          script.append(two).append(a).append(' ').append(b).append(" = ").append(due);
          script.append("\nabout 9 1 = ").append(a + b <= 3 ? a + b : 3).append('\n');
        }
      }
      script.append("make 0 0 = ").append(made + 1).append('\n');
      SCRIPTS.run("LEAVES: at most 3, KIND " + kind, script.toString());
    }
  }

  private static void height() {
    SCRIPTS.run(
        "HEIGHT: 1 for these, else one more than the greatest of those",
        """
        make 0 0 = 1
        make 1 6 = 2
        copy 2 1 0 = 3
        copy 3 2 0 = 4
        ofMap 4 1 0 = 5
        ofMap 5 1 8 = 6
        about 0 2, about 1 2, about 2 2, about 3 2, about 4 2, about 5 2 = 1
        reversed 6 0 = 7
        part 7 2 0 0 = 8
        shifted 8 4 1 = 9
        combine 9 10 1 5 = 10
        about 6 2, about 7 2, about 8 2, about 9 2 = 2
        reversed 6 7 = 11
        part 7 8 0 0 = 12
        shifted 8 6 1 = 13
        about 6 2, about 7 2 = 3
        about 8 2 = 4
        combine 9 11 0 8 = 14   # 1 and 4
        about 9 2 = 5
        combine 9 9 8 0 = 15    # 4 and 1
        about 9 2 = 5
        combine 9 9 6 7 = 16    # 3 and 3
        about 9 2 = 4
        copy 8 1 9 = 17
        copy 7 2 9 = 18
        about 8 2, about 7 2 = 1        # a copy is low again
        """);
  }

  private static void heightAtMost() {
    // Handle 1 is of HEIGHT 5 and 2 of 6, both ROWS; 3 and 4 likewise, of two.
    String ground =
        """
        make 0 0 = 1
        shifted 1 0 1 = 2
        shifted 1 1 1 = 3
        shifted 1 1 1 = 4
        combine 3 9 1 0 = 5
        shifted 1 1 1 = 6
        reversed 2 1 = 7
        combine 4 9 1 0 = 8
        about 1 2, about 3 2 = 5
        about 2 2, about 4 2 = 6
        """;
    String[] makers = {
      "reversed 9 %s", "part 9 %s 0 0", "shifted 9 %s 7", "combine 9 9 %s 0", "combine 9 9 0 %s",
      "combine 9 10 %s 0", "combine 9 10 0 %s", "combine 9 11 %s 0", "combine 9 11 0 %s"
    };
    for (String maker : makers) {
      String script = ground;
      script += maker.formatted("2") + " = !ISE\nabout 9 0 = !IAE\n";
      script += maker.formatted("1") + " = 9\nabout 9 2 = 6\n";
      if (maker.startsWith("combine")) {
        script += maker.formatted("4") + " = !ISE\nabout 9 2 = 6\n";
        script += maker.formatted("3") + " = 10\nabout 9 2 = 6\nabout 9 1 = 3\n";
      }
      SCRIPTS.run("HEIGHT: at most 6: " + maker, script);
    }
  }

  private static void changesOfList() {
    SCRIPTS.run(
        "CHANGES: how often an int was put into or taken out of that LIST",
        """
        make 0 0 = 1
        make 5 0 = 2
        about 0 3 = 0
        add 0 1 = 1
        about 0 3 = 1
        insert 0 0 1 = 2
        about 0 3 = 2
        take 0 0 = 1
        about 0 3 = 3
        remove 0 1 = 0
        about 0 3 = 4           # empty as at first, but not its CHANGES
        add 0 1 = 1
        reversed 1 0 = 3
        add 1 2 = 2
        part 2 0 0 2 = 4
        insert 2 1 3 = 3
        shifted 3 0 1 = 5
        take 3 0 = 3
        remove 1 1 = 0
        about 0 3 = 9           # through any of its views
        about 5 3 = 0           # another LIST has its own
        """);
  }

  private static void changesOfValues() {
    SCRIPTS.run(
        "CHANGES: for VALUES of a key, of that list",
        """
        make 0 6 = 1
        ofMap 1 0 1 = 2
        ofMap 2 0 2 = 3
        ofMap 3 0 8 = 4
        about 1 3, about 2 3 = 0
        add 1 10 = 1
        about 1 3 = 1
        about 2 3 = 0           # of another key
        add 1 11 = 2
        add 1 12 = 3
        add 2 20 = 1
        take 0 1 = 11           # out of the MULTIMAP
        about 1 3 = 4
        remove 0 20 = 2
        about 2 3 = 2
        remove 1 10 = 0
        about 1 3 = 5
        add 1 13 = 2
        add 1 14 = 3
        about 1 3 = 7
        take 3 0 = 1            # KEYS: all ints of that key are taken out, each counting
        about 1 3 = 10
        add 2 21 = 1
        about 2 3 = 3
        remove 3 2 = 0          # one int: one CHANGE
        about 2 3 = 4
        about 1 3 = 10
        ofMap 4 0 1 = 5         # the list's, not those of one view of it
        about 4 3 = 10
        ofMap 4 0 7 = 6
        about 4 3 = 0
        """);
  }

  private static void changesOfCopies() {
    SCRIPTS.run(
        "CHANGES: 0 for FROZEN and SORTED",
        """
        make 0 0 = 1
        add 0 2 = 1
        add 0 1 = 2
        copy 1 1 0 = 2
        copy 2 2 0 = 3
        about 1 3, about 2 3 = 0
        reversed 3 1 = 4
        part 4 2 0 2 = 5
        shifted 5 1 1 = 6
        about 3 3, about 4 3, about 5 3 = 0     # those of the BASE
        add 0 3 = 3
        add 1 3, take 2 0 = !UOE
        about 1 3, about 2 3, about 3 3, about 4 3, about 4 4 = 0
        """);
  }

  private static void changesOfOthers() {
    SCRIPTS.run(
        "CHANGES: for others those of the BASE",
        """
        make 0 0 = 1
        add 0 1 = 1
        add 0 2 = 2
        reversed 1 0 = 2
        part 2 1 0 1 = 3
        shifted 3 2 1 = 4
        about 1 3, about 2 3, about 3 3 = 2     # from before they were made
        add 2 9 = 2
        about 0 3, about 1 3, about 2 3, about 3 3 = 3
        take 0 0 = 1
        about 2 4, about 3 4 = 1
        about 0 3, about 1 3, about 2 3, about 3 3 = 4      # also of one that is STALE
        make 4 6 = 5
        ofMap 5 4 6 = 6
        add 5 1 = 1
        reversed 6 5 = 7
        about 6 3 = 1
        ofMap 7 4 8 = 8
        combine 8 9 0 5 = 9
        combine 9 10 5 5 = 10
        about 4 3, about 7 3, about 8 3, about 9 3 = !IAE       # no ROWS
        combine 9 11 5 5 = 11
        about 9 3 = !IAE
        """);
  }

  private static void noChange() {
    SCRIPTS.run(
        "CHANGES: what is none",
        """
        make 0 0 = 1
        add 0 1 = 1
        reversed 1 0 = 2
        part 2 0 0 1 = 3
        about 0 3 = 1
        put 0 0 2 = 1           # PUT: the int there becomes v
        put 0 0 2 = 2
        put 1 0 3 = 2
        put 2 0 4 = 3
        about 0 3 = 1
        about 2 4 = 0
        insert 0 2 9, insert 0 -1 9, take 0 1, put 0 1 9 = !IOOBE
        remove 0 9, find 0 9 = !NSEE
        copy 3 1 0 = 4
        hold 4 0 = 0
        shifted 5 0 1 = 5
        add 5 1, put 5 0 1 = !UOE
        hold 5 -1 = -1
        about 0 3, about 1 3, about 2 3, about 4 3 = 1
        about 2 4 = 0
        show 2 = 4
        """);
  }
}
