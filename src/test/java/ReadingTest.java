/** Promises 10, 11, 12, 18, 19 and 20: the calls that look at NODES. */
public final class ReadingTest {
  private static final Scripts SCRIPTS = new Scripts();

  public static void main(String[] args) {
    sizeAndAt();
    sizeOfMany();
    find();
    mean();
    alike();
    about();
    aboutErrors();
    stale();
    staleByMap();
    noted();
    SCRIPTS.end("ReadingTest");
  }

  // All KINDS, in the handles of their numbers, but for SORTED (over the same LIST) and two MAPS.
  private static final String ALL_KINDS =
      """
      make 0 0 = 1
      add 0 4 = 1
      add 0 2 = 2
      add 0 4 = 3
      add 0 1 = 4
      copy 1 1 0 = 2
      copy 2 2 0 = 3
      reversed 3 0 = 4
      part 4 0 1 3 = 5
      shifted 5 0 10 = 6
      make 6 6 = 7
      ofMap 7 6 3 = 8
      add 7 2 = 1
      add 7 3 = 2
      ofMap 8 6 8 = 9
      combine 9 9 0 6 = 10
      """;

  private static void sizeAndAt() {
    SCRIPTS.run(
        "promises 10 and 11: size and at",
        ALL_KINDS
            + """
            size 0, size 1, size 3, size 5, size 9 = 4
            size 2 = 3
            size 4, size 6, size 7 = 2
            size 8 = 1
            at 0 0, at 1 0, at 3 1, at 4 1, at 9 0 = 4
            at 0 3, at 1 3, at 2 0, at 3 0, at 9 2 = 1
            at 5 0 = 14
            at 5 3 = 11
            at 6 0, at 7 0, at 2 1, at 4 0 = 2
            at 6 1, at 7 1, at 8 0, at 9 3 = 3
            at 0 4, at 1 4, at 2 3, at 3 4, at 4 2, at 5 4, at 6 2, at 7 2, at 8 1, at 9 4 = !IOOBE
            at 0 -1, at 3 -1, at 4 -1, at 4 MAX, at 5 MIN, at 6 MAX, at 9 -1, at 9 MIN = !IOOBE
            size -1, size 10, size MIN, at -1 0, at 10 0, at MAX 99 = !IAE
            hold 4 -1 = -1
            size 4, at 4 0, at 4 9 = !IAE
            """);
  }

  private static void sizeOfMany() {
    StringBuilder script = new StringBuilder("make 0 6 = 1\nmake 1 6 = 2\nmake 2 6 = 3\n");
    script.append("ofMap 3 0 0 = 4\nofMap 4 1 1 = 5\nofMap 5 2 2 = 6\n");
    for (int i = 0; i < 72; i++) {
      script.append("add ").append(3 + i / 24).append(' ').append(i);
      script.append(" = ").append(i % 24 + 1).append('\n');
    }
    script.append(
        """
        combine 6 9 0 1 = 7
        combine 7 9 6 2 = 8
        combine 8 9 2 6 = 9
        combine 9 11 7 2 = !ISE
        shifted 9 3 100 = 10    # 24 more for a UNION to write
        combine 9 9 9 1 = 11
        size 9 = 48
        at 9 23 = 123
        at 9 24 = 24
        size 6 = 48
        size 7, size 8 = 72
        at 7 71 = 71
        at 8 0 = 48
        at 8 71 = 47
        mean 7 = 35.5
        find 8 47 = 71
        alike 7 8 = false
        alike 7 7 = true
        copy 9 1 7 = !ISE
        """);
    SCRIPTS.run("promise 10: the most ELEMENTS", script.toString());
  }

  private static void find() {
    SCRIPTS.run(
        "promise 12: find",
        ALL_KINDS
            + """
            find 0 4, find 1 4, find 9 4, find 4 2, find 6 2, find 7 2, find 8 3, find 2 1 = 0
            find 3 4, find 4 4, find 9 2, find 0 2, find 6 3, find 2 2 = 1
            find 3 2, find 9 1, find 2 4 = 2
            find 0 1, find 9 3, find 5 11 = 3
            find 0 3, find 1 9, find 2 3, find 3 0, find 4 1, find 5 4, find 6 1 = !NSEE
            find 7 4, find 8 2, find 9 0, find 0 MIN, find 0 MAX = !NSEE
            find -1 0, find 10 0, find MIN 4 = !IAE
            make 0 0 = 11
            find 0 0 = !NSEE
            hold 0 -1 = -1
            find 0 0 = !IAE
            """);
  }

  private static void mean() {
    SCRIPTS.run(
        "promise 18: mean",
        ALL_KINDS
            + """
            mean 0, mean 1, mean 3 = 2.75
            mean 2 = 2.3333333333333335
            mean 4, mean 8 = 3.0
            mean 5 = 12.75
            mean 6, mean 7, mean 9 = 2.5
            make 0 0 = 11
            mean 0 = !NSEE
            add 0 MAX = 1
            add 0 MAX = 2
            add 0 MAX = 3
            mean 0 = 2.147483647E9      # the sum is no int
            put 0 0 MIN = MAX
            put 0 1 MIN = MAX
            mean 0 = -7.15827883E8
            put 0 2 MIN = MAX
            mean 0 = -2.147483648E9
            make 0 6 = 12
            ofMap 1 0 8 = 13
            ofMap 2 0 0 = 14
            combine 3 11 9 9 = !ISE
            mean 0, mean 1, mean 2 = !NSEE
            mean -1, mean 10 = !IAE
            hold 0 -1 = -1
            mean 0 = !IAE
            """);
  }

  private static void alike() {
    SCRIPTS.run(
        "promise 19: alike",
        ALL_KINDS
            + """
            alike 0 0, alike 0 1, alike 1 0, alike 6 7, alike 7 6, alike 9 9 = true
            alike 0 2, alike 0 3, alike 0 9, alike 6 8, alike 4 5, alike 0 5, alike 0 4 = false
            reversed 5 3 = 11
            alike 5 0 = true            # of another KIND
            part 5 0 0 3 = 12
            alike 5 0, alike 0 5 = false        # the one is a beginning of the other
            make 5 0 = 13
            alike 5 0, alike 0 5, alike 5 4 = false
            copy 4 1 5 = 14
            alike 4 5, alike 5 4 = true         # both empty
            hold 4 1 = 1
            put 0 0 9 = 4
            alike 0 4 = false                   # the first alone is another
            put 0 0 4 = 9
            alike 0 4 = true
            put 0 3 9 = 1
            alike 0 4 = false                   # the last alone
            put 0 3 1 = 9
            alike -1 0, alike 0 -1, alike 10 0, alike 0 10 = !IAE
            hold 5 -1 = -1
            alike 0 5, alike 5 0, alike 5 5 = !IAE
            """);
  }

  private static void about() {
    SCRIPTS.run(
        "promise 20: about",
        ALL_KINDS
            + """
            about 0 0 = 0
            about 1 0 = 1
            about 2 0 = 2
            about 3 0 = 3
            about 4 0 = 4
            about 5 0 = 5
            about 6 0 = 6
            about 7 0 = 7
            about 8 0 = 8
            about 9 0 = 9
            about 0 1, about 1 1, about 2 1, about 3 1, about 4 1, about 5 1, about 6 1 = 1
            about 7 1, about 8 1 = 1
            about 9 1 = 2
            about 0 2, about 1 2, about 2 2, about 6 2, about 7 2, about 8 2 = 1
            about 3 2, about 4 2, about 5 2, about 9 2 = 2
            about 0 3, about 3 3, about 4 3, about 5 3 = 4
            about 1 3, about 2 3 = 0
            about 7 3 = 2
            about 6 3, about 8 3, about 9 3 = !IAE
            about 0 4, about 1 4, about 4 4, about 8 4, about 9 4 = 0
            put 0 0 9 = 4               # no CHANGE
            about 0 3 = 4
            take 0 0 = 9
            insert 0 0 9 = 4
            about 0 3, about 3 3, about 4 3, about 5 3 = 6
            take 8 0 = 3                # each int that it takes counts
            about 7 3 = 4
            ofMap 9 6 3 = 11
            about 9 3 = 4               # the list's, not the view's own
            ofMap 9 6 4 = 12
            about 9 3 = 0
            copy 9 1 0 = 13
            reversed 9 9 = 14
            about 9 3 = 0
            """);
  }

  private static void aboutErrors() {
    SCRIPTS.run(
        "promise 20: about, wrong inputs and STALE",
        """
        make 0 0 = 1
        add 0 1 = 1
        part 1 0 0 1 = 2
        shifted 2 1 1 = 3
        combine 3 11 2 0 = 4
        combine 4 10 0 2 = 5
        add 0 2 = 2
        about 1 4, about 2 4, about 3 4, about 4 4 = 1
        about 0 4 = 0
        about 1 0 = 4
        about 2 0 = 5
        about 3 0 = 11
        about 4 0 = 10
        about 1 1, about 2 1 = 1
        about 3 1, about 4 1, about 1 2 = 2
        about 2 2 = 3
        about 3 2, about 4 2 = 4
        about 0 3, about 1 3, about 2 3 = 2     # those of the BASE now
        about 3 3, about 4 3 = !IAE
        about 0 -1, about 0 5, about 0 MIN, about 0 MAX, about 1 5, about 3 -1 = !IAE
        about -1 0, about 10 0, about 9 0, about 9 4, about MIN 3 = !IAE
        """);
  }

  private static void stale() {
    SCRIPTS.run(
        "STALE: all that looks at a NODE throws",
        """
        make 0 0 = 1
        add 0 1 = 1
        add 0 2 = 2
        part 1 0 0 2 = 2
        reversed 2 1 = 3
        combine 3 9 2 0 = 4
        combine 4 9 0 1 = 5
        reversed 5 0 = 6
        part 6 5 0 1 = 7
        take 0 1 = 2
        size 1, size 2, size 3, size 4, size 6 = !ISE
        at 1 0, at 2 0, at 3 0, at 4 0, at 6 0, at 1 9, at 2 -1 = !ISE  # before the place
        find 1 1, find 2 1, find 3 1, find 4 1, find 1 77 = !ISE        # before what is not there
        mean 1, mean 2, mean 3, mean 4, mean 6 = !ISE
        alike 1 0, alike 0 1, alike 1 1, alike 3 0, alike 0 4, alike 6 0 = !ISE
        size 0, size 5 = 1
        add 0 2 = 2             # the same ints again, but CHANGES of their own
        size 1, size 6 = !ISE
        about 1 4 = 1
        alike 1 9, alike 9 1 = !IAE
        """);
  }

  private static void staleByMap() {
    SCRIPTS.run(
        "STALE: a PART of VALUES",
        """
        make 0 6 = 1
        ofMap 1 0 1 = 2
        ofMap 2 0 2 = 3
        ofMap 3 0 8 = 4
        add 1 10 = 1
        part 4 1 0 1 = 5
        add 2 20 = 1            # the list of another key
        show 4 = 10
        take 0 1 = 20
        show 4 = 10
        take 3 0 = 1
        size 4 = !ISE
        add 1 10 = 1
        part 4 1 0 1 = 6
        remove 0 10 = 0
        size 4 = !ISE
        add 1 10 = 1
        part 4 1 0 1 = 7
        ofMap 5 0 1 = 8
        put 5 0 11 = 10
        show 4 = 11
        add 5 12 = 2            # through another view of the list
        size 4 = !ISE
        """);
  }

  private static void noted() {
    SCRIPTS.run(
        "STALE: what a PART notes",
        """
        make 0 0 = 1
        add 0 1 = 1
        add 0 2 = 2
        add 0 3 = 3
        part 1 0 0 3 = 2
        part 2 1 1 3 = 3
        part 3 1 0 1 = 4
        reversed 4 2 = 5
        add 4 9 = 3             # through 4, 2, 1 and 0
        show 0 = 1 9 2 3
        show 1 = 1 9 2 3
        show 2 = 9 2 3
        show 4 = 3 2 9
        size 3 = !ISE           # a PART of the same BASE, but not on the way
        shifted 5 2 1 = 6
        take 5 0 = 10           # through 5, 2, 1 and 0
        show 2 = 2 3
        show 1 = 1 2 3
        take 1 2 = 3            # through 1 and 0
        show 1 = 1 2
        size 2, size 4, size 5 = !ISE
        about 1 4 = 0
        remove 1 1 = 0
        show 1 = 2
        show 0 = 2
        """);
  }
}
