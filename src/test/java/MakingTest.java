/** Promises 1 to 9: the calls that make NODES and hold them. */
public final class MakingTest {
  private static final Scripts SCRIPTS = new Scripts();

  public static void main(String[] args) {
    newObject();
    make();
    limitOfNodes();
    copy();
    copyLimit();
    reversed();
    part();
    partErrors();
    shifted();
    ofMap();
    ofMapOrder();
    combine();
    combineLimits();
    heightLimit();
    makingOverStale();
    hold();
    SCRIPTS.end("MakingTest");
  }

  private static void newObject() {
    SCRIPTS.run(
        "promise 1: a new object",
        """
        size 0, size 1, size 2, size 3, size 4, size 5, size 6, size 7, size 8, size 9 = !IAE
        about 0 0, about 9 0, alike 0 0, mean 3, add 0 1, take 0 0, reversed 1 0, copy 1 1 0 = !IAE
        make 0 0 = 1            # no NODE was made before
        size 1 = !IAE
        """);
  }

  private static void make() {
    SCRIPTS.run(
        "promise 2: make",
        """
        make -1 0, make 10 0, make MIN 0, make MAX 6 = !IAE
        make 0 -1, make 0 1, make 0 2, make 0 5, make 0 7, make 0 8, make 0 9, make 0 12 = !IAE
        about 0 0 = !IAE
        make 0 0 = 1
        make 9 6 = 2
        about 0 0 = 0
        about 9 0 = 6
        size 0, size 9 = 0
        about 0 1, about 0 2, about 9 1, about 9 2 = 1
        add 0 5 = 1
        make 0 0 = 3            # another LIST, in the place of the first
        size 0 = 0
        make 0 6 = 4
        about 0 0 = 6
        """);
  }

  private static void limitOfNodes() {
    StringBuilder script = new StringBuilder();
    for (int i = 1; i <= 33; i++) {
      script.append("make 0 ").append(i % 2 * 6).append(" = ").append(i).append('\n');
    }
    // One of every call that makes a NODE counts, and each of them is refused past the 40th.
    script.append(
        """
        copy 1 1 0 = 34
        copy 2 2 0 = 35
        reversed 3 1 = 36
        part 4 1 0 0 = 37
        shifted 5 1 0 = 38
        ofMap 6 0 1 = 39
        combine 7 9 0 1 = 40
        make 8 0, make 8 6, copy 8 1 0, copy 8 2 0, reversed 8 1, part 8 1 0 0 = !ISE
        shifted 8 1 0, ofMap 8 0 1, ofMap 8 0 8, combine 8 9 0 1 = !ISE
        make 10 0, make 8 1, copy 8 0 0, reversed 8 7, part 8 9 0 0, ofMap 8 0 9 = !IAE
        ofMap 8 1 1, combine 8 8 0 1, shifted 8 9 1 = !IAE
        part 8 1 0 1 = !IOOBE
        size 8 = !IAE
        hold 8 7 = 9            # makes no NODE
        hold 8 -1 = -1
        make 8 0 = !ISE         # letting go of a NODE gives no room
        size 7 = 0
        """);
    SCRIPTS.run("promise 2: 40 NODES", script.toString());
  }

  private static void copy() {
    SCRIPTS.run(
        "promise 3: copy",
        """
        make 0 0 = 1
        add 0 3 = 1
        add 0 MIN = 2
        add 0 3 = 3
        add 0 MAX = 4
        add 0 0 = 5
        copy -1 1 0, copy 10 1 0, copy 1 1 -1, copy 1 1 10, copy 1 1 5 = !IAE
        copy 1 0 0, copy 1 3 0, copy 1 -1 0, copy 1 6 0 = !IAE
        copy 1 1 0 = 2
        copy 2 2 0 = 3
        show 1 = 3 -2147483648 3 2147483647 0
        show 2 = -2147483648 0 3 2147483647
        about 1 0 = 1
        about 2 0 = 2
        about 1 1, about 1 2, about 2 1, about 2 2 = 1
        about 1 3, about 2 3 = 0
        take 0 0 = 3
        put 0 0 9 = MIN
        show 0 = 9 3 2147483647 0
        show 1 = 3 -2147483648 3 2147483647 0
        show 2 = -2147483648 0 3 2147483647
        copy 0 1 0 = 4          # over its own handle
        show 0 = 9 3 2147483647 0
        add 0 1 = !UOE
        make 3 0 = 5
        copy 4 1 3 = 6
        copy 5 2 3 = 7
        size 4, size 5 = 0
        reversed 6 1 = 8
        copy 7 2 6 = 9          # of a view
        alike 7 2 = true
        make 8 6 = 10
        ofMap 9 8 6 = 11
        add 9 4 = 1
        ofMap 9 8 2 = 12
        add 9 4 = 1
        copy 9 1 8 = 13         # of a MULTIMAP
        show 9 = 4 4
        ofMap 9 8 8 = 14
        copy 9 2 9 = 15         # of KEYS
        show 9 = 2 6
        """);
  }

  private static void copyLimit() {
    StringBuilder script = new StringBuilder("make 0 0 = 1\nmake 1 6 = 2\nofMap 2 1 4 = 3\n");
    for (int i = 0; i < 24; i++) {
      script.append("add 2 ").append(i).append(" = ").append(i + 1).append('\n');
    }
    script.append(
        """
        add 0 23 = 1
        combine 3 9 1 0 = 4
        copy 4 1 3 = 5          # 24 ints
        copy 5 2 3 = 6
        size 4, size 5 = 24
        add 0 24 = 2
        size 3 = 25
        copy 4 1 3, copy 5 2 3 = !ISE
        size 4, size 5 = 24
        take 0 1 = 24
        copy 4 1 3 = 7          # those that threw made no NODE
        """);
    SCRIPTS.run("promise 3: 24 ints", script.toString());
  }

  private static void reversed() {
    SCRIPTS.run(
        "promise 4: reversed",
        """
        make 0 0 = 1
        reversed 1 0 = 2
        size 1 = 0
        add 0 1 = 1
        show 1 = 1
        add 0 2 = 2
        add 0 3 = 3
        show 1 = 3 2 1
        about 1 0 = 3
        about 1 1 = 1
        about 1 2 = 2
        about 1 3 = 3
        reversed 2 1 = 3
        show 2 = 1 2 3
        about 2 2 = 3
        make 3 6 = 4
        ofMap 4 3 1 = 5
        ofMap 5 3 8 = 6
        combine 6 10 0 0 = 7
        copy 7 1 0 = 8
        copy 8 2 0 = 9
        reversed 9 3, reversed 9 5, reversed 9 6, reversed 9 9 = !IAE   # no ROWS
        reversed -1 0, reversed 10 0, reversed 9 -1, reversed 9 10 = !IAE
        reversed 9 4 = 10
        reversed 9 7 = 11
        show 9 = 3 2 1
        reversed 9 8 = 12
        show 9 = 3 2 1
        shifted 9 0 10 = 13
        reversed 9 9 = 14
        show 9 = 13 12 11
        part 9 0 0 2 = 15
        reversed 9 9 = 16
        show 9 = 2 1
        """);
  }

  private static void part() {
    SCRIPTS.run(
        "promise 5: part",
        """
        make 0 0 = 1
        add 0 0 = 1
        add 0 1 = 2
        add 0 2 = 3
        add 0 3 = 4
        part 1 0 1 3 = 2
        show 1 = 1 2
        about 1 0 = 4
        about 1 1 = 1
        about 1 2 = 2
        about 1 3 = 4
        part 2 0 0 4 = 3
        part 3 0 2 2 = 4
        part 4 0 4 4 = 5
        part 5 0 0 0 = 6
        show 2 = 0 1 2 3
        size 3, size 4, size 5 = 0
        at 3 0, at 1 2, at 1 -1 = !IOOBE
        part 6 1 1 2 = 7        # of a PART: its own places
        show 6 = 2
        put 0 2 22 = 2          # no CHANGE: seen, and not STALE
        show 1 = 1 22
        show 6 = 22
        reversed 7 0 = 8
        part 8 7 0 2 = 9
        show 8 = 3 22
        copy 9 1 0 = 10
        part 9 9 3 4 = 11       # of a FROZEN: never STALE
        add 0 5 = 5
        show 9 = 3
        """);
  }

  private static void partErrors() {
    SCRIPTS.run(
        "promise 5: part, wrong inputs",
        """
        make 0 0 = 1
        add 0 7 = 1
        add 0 8 = 2
        part 1 0 0 3, part 1 0 -1 1, part 1 0 2 1, part 1 0 3 3, part 1 0 MIN MAX = !IOOBE
        part 1 0 MAX MIN, part 1 0 0 MAX, part 1 0 0 -1, part 1 0 -1 -1 = !IOOBE
        part -1 0 0 0, part 10 0 0 0, part 1 -1 0 0, part 1 10 0 0, part 1 5 0 0 = !IAE
        make 2 6 = 2            # those that threw made no NODE
        ofMap 3 2 8 = 3
        combine 4 9 0 0 = 4
        part 1 2 0 0, part 1 3 0 0, part 1 4 0 0, part 1 4 5 3 = !IAE      # no ROWS
        part 10 0 5 3 = !IAE    # before the places
        part 1 0 1 2 = 5
        part 5 1 1 2 = !IOOBE
        part 5 1 1 1 = 6
        """);
  }

  private static void shifted() {
    SCRIPTS.run(
        "promise 6: shifted",
        """
        make 0 0 = 1
        add 0 1 = 1
        add 0 MAX = 2
        add 0 MIN = 3
        shifted 1 0 1 = 2
        shifted 2 0 -1 = 3
        shifted 3 0 MIN = 4
        shifted 4 0 0 = 5
        show 1 = 2 -2147483648 -2147483647
        show 2 = 0 2147483646 2147483647
        show 3 = -2147483647 -1 0
        show 4 = 1 2147483647 -2147483648
        shifted 5 1 MAX = 6
        show 5 = -2147483647 -1 0
        about 5 0 = 5
        about 5 1 = 1
        about 5 2, about 5 3 = 3
        add 0 4 = 4
        at 1 3 = 5
        shifted -1 0 1, shifted 10 0 1, shifted 6 -1 1, shifted 6 10 1, shifted 6 9 1 = !IAE
        make 6 6 = 7
        ofMap 7 6 8 = 8
        combine 8 11 0 0 = 9
        shifted 9 6 1, shifted 9 7 1, shifted 9 8 1 = !IAE      # no ROWS
        """);
  }

  private static void ofMap() {
    SCRIPTS.run(
        "promise 7: ofMap",
        """
        make 0 6 = 1
        ofMap 1 0 0 = 2
        ofMap 2 0 7 = 3
        ofMap 3 0 8 = 4
        about 1 0, about 2 0 = 7
        about 3 0 = 8
        about 1 1, about 1 2, about 3 1, about 3 2 = 1
        size 0, size 1, size 2, size 3 = 0
        add 2 5 = 1
        add 1 6 = 1
        show 0 = 5 6
        show 3 = 7 0
        show 1 = 6
        show 2 = 5
        ofMap 4 0 0 = 5         # another view of the same list
        add 4 60 = 2
        show 1 = 6 60
        ofMap 4 0 -1, ofMap 4 0 9, ofMap 4 0 MIN, ofMap 4 0 MAX = !IAE
        ofMap -1 0 0, ofMap 10 0 0, ofMap 4 -1 0, ofMap 4 10 0, ofMap 4 9 0 = !IAE
        ofMap 5 1 0, ofMap 5 3 0 = !IAE
        make 5 0 = 6
        copy 6 1 0 = 7
        ofMap 7 5 0, ofMap 7 6 8 = !IAE
        make 7 6 = 8            # another MULTIMAP has its own lists
        ofMap 7 7 7 = 9
        size 7 = 0
        """);
  }

  private static void ofMapOrder() {
    SCRIPTS.run(
        "promise 7: the order of the keys",
        """
        make 0 6 = 1
        ofMap 1 0 1 = 2
        ofMap 2 0 2 = 3
        ofMap 3 0 3 = 4
        ofMap 8 0 8 = 5
        add 3 30 = 1
        add 1 10 = 1
        add 2 20 = 1
        show 8 = 3 1 2
        add 3 31 = 2            # was THERE: its place stays
        show 8 = 3 1 2
        show 0 = 30 31 10 20
        take 3 0 = 30
        show 8 = 3 1 2          # is THERE yet
        take 3 0 = 31
        show 8 = 1 2
        add 3 32 = 1            # comes to be THERE anew: last
        show 8 = 1 2 3
        show 0 = 10 20 32
        take 0 0 = 10
        insert 1 0 11 = 1
        show 8 = 2 3 1
        show 0 = 20 32 11
        """);
  }

  private static void combine() {
    SCRIPTS.run(
        "promise 8: combine",
        """
        make 0 0 = 1
        make 1 0 = 2
        add 0 3 = 1
        add 0 1 = 2
        add 0 3 = 3
        add 0 2 = 4
        add 1 5 = 1
        add 1 2 = 2
        add 1 5 = 3
        add 1 3 = 4
        add 1 4 = 5
        combine 2 9 0 1 = 3
        combine 3 10 0 1 = 4
        combine 4 11 0 1 = 5
        show 2 = 3 1 2 5 4
        show 3 = 3 2
        show 4 = 1
        combine 5 9 1 0 = 6
        combine 6 10 1 0 = 7
        combine 7 11 1 0 = 8
        show 5 = 5 2 3 4 1
        show 6 = 2 3
        show 7 = 5 4
        about 2 0 = 9
        about 3 0 = 10
        about 4 0 = 11
        add 1 1 = 6             # live
        show 2 = 3 1 2 5 4
        show 3 = 3 1 2
        size 4 = 0
        combine 8 9 0 0 = 9
        show 8 = 3 1 2
        combine 8 11 0 0 = 10
        size 8 = 0
        combine 9 8 0 1, combine 9 12 0 1, combine 9 -1 0 1, combine 9 0 0 1 = !IAE
        combine -1 9 0 1, combine 10 9 0 1, combine 9 9 -1 0, combine 9 9 10 0 = !IAE
        combine 9 9 0 -1, combine 9 9 0 10, combine 9 9 9 0, combine 9 9 0 9 = !IAE
        combine 0 11 2 0 = 11   # over one of its own two
        show 0 = 5 4
        """);
  }

  private static void combineLimits() {
    SCRIPTS.run(
        "promise 8: LEAVES and HEIGHT of two",
        """
        make 0 6 = 1
        ofMap 1 0 4 = 2
        ofMap 2 0 8 = 3
        add 1 7 = 1
        add 1 4 = 2
        combine 3 9 2 0 = 4
        show 3 = 4 7
        about 3 1, about 3 2 = 2
        combine 4 10 3 2 = 5
        show 4 = 4
        about 4 1, about 4 2 = 3
        combine 5 9 1 3 = 6
        show 5 = 7 4
        about 5 1, about 5 2 = 3
        combine 6 9 3 3, combine 6 9 4 0, combine 6 9 0 4, combine 6 9 4 4 = !ISE     # LEAVES
        combine 6 8 4 4, combine 6 9 4 9, reversed 6 4 = !IAE
        size 6 = !IAE
        shifted 6 1 1 = 7
        shifted 6 6 1 = 8
        combine 7 11 0 6 = 9
        about 7 1 = 2
        about 7 2 = 4           # one more than the greater
        show 7 = 7 4
        combine 8 9 6 0 = 10
        about 8 2 = 4
        show 8 = 9 6 7 4
        """);
  }

  private static void heightLimit() {
    SCRIPTS.run(
        "promises 4 to 8: HEIGHT at most 6",
        """
        make 0 0 = 1
        add 0 1 = 1
        add 0 2 = 2
        add 0 3 = 3
        reversed 1 0 = 2
        part 2 1 0 2 = 3
        shifted 3 2 10 = 4
        reversed 4 3 = 5
        about 4 2 = 5
        combine 5 9 0 4 = 6
        show 5 = 1 2 3 12 13
        shifted 6 4 100 = 7
        reversed 7 4 = 8
        part 8 4 1 2 = 9
        about 5 2, about 6 2, about 7 2, about 8 2 = 6
        show 6 = 112 113
        show 7 = 13 12
        show 8 = 13
        hold 7 -1 = -1
        reversed 7 6, part 7 6 0 1, shifted 7 6 1, combine 7 9 6 0, combine 7 9 0 6 = !ISE
        combine 7 9 5 0, combine 7 9 0 5 = !ISE
        part 7 6 0 3, part 7 6 2 1 = !IOOBE     # before the LIMITS
        size 7 = !IAE
        copy 7 1 6 = 10         # a copy is low again
        about 7 2 = 1
        reversed 8 7 = 11
        """);
  }

  private static void makingOverStale() {
    SCRIPTS.run(
        "promises 3 to 9: over a STALE NODE",
        """
        make 0 0 = 1
        part 1 0 0 0 = 2
        reversed 2 1 = 3
        combine 3 9 2 0 = 4
        combine 4 9 0 1 = 5
        add 0 1 = 1
        about 1 4, about 2 4, about 3 4, about 4 4 = 1
        about 0 4 = 0
        copy 5 1 1, copy 5 2 2, copy 5 1 3, copy 5 2 4 = !ISE
        reversed 5 1, reversed 5 2, shifted 5 1 1, shifted 5 2 1 = !ISE
        part 5 1 0 0, part 5 2 3 1 = !ISE               # before the places
        combine 5 9 1 0, combine 5 9 0 1, combine 5 9 0 2, combine 5 10 4 0 = !ISE
        copy 5 0 1, reversed 10 1, reversed 5 3, part 5 4 0 0, combine 5 8 1 0 = !IAE
        size 5 = !IAE
        hold 5 1 = 4
        hold 6 3 = 9
        about 5 4, about 6 4 = 1
        make 7 0 = 6
        """);
  }

  private static void hold() {
    SCRIPTS.run(
        "promise 9: hold",
        """
        make 0 0 = 1
        add 0 5 = 1
        hold 1 0 = 0
        add 1 6 = 2             # the same NODE
        show 0 = 5 6
        hold 2 -1 = -1
        hold 0 -1 = -1
        size 0 = !IAE
        show 1 = 5 6
        hold 1 1 = 0
        show 1 = 5 6
        hold 1 0 = -1           # what the other holds is nothing
        size 1 = !IAE
        hold -1 0, hold 10 0, hold 0 -2, hold 0 10, hold MIN -1, hold 0 MIN, hold 0 MAX = !IAE
        make 3 6 = 2
        ofMap 4 3 8 = 3
        ofMap 5 3 2 = 4
        add 5 1 = 1
        hold 9 3 = 6
        hold 9 4 = 8
        hold 9 5 = 7
        reversed 6 5 = 5
        hold 9 6 = 3
        part 6 5 0 1 = 6
        hold 9 6 = 4
        shifted 7 6 1 = 7
        hold 6 -1 = -1          # those over it see it still
        show 7 = 2
        hold 9 7 = 5
        copy 8 1 5 = 8
        hold 9 8 = 1
        copy 8 2 5 = 9
        hold 9 8 = 2
        combine 8 9 5 5 = 10
        hold 9 8 = 9
        combine 8 10 5 5 = 11
        hold 9 8 = 10
        combine 8 11 5 5 = 12
        hold 0 8 = 11
        hold 0 9 = 10
        """);
  }
}
