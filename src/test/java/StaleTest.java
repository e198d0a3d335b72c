/** STALE: what makes a PART so and what does not, whom it counts for, and what can be done yet. */
public final class StaleTest {
  private static final Scripts SCRIPTS = new Scripts();

  public static void main(String[] args) {
    waysOfList();
    waysOfValues();
    noWaysOfList();
    noWaysOfValues();
    noWaysOfCopies();
    forGood();
    partOverPart();
    oneOfTwoParts();
    notesAfterEachChange();
    notesThroughOthers();
    emptyPart();
    belowAnother();
    belowOneOfTwo();
    eachCall();
    handleMayBeCopied();
    aboutStale();
    SCRIPTS.end("StaleTest");
  }

  // LIST 0: 1 2 3 4. Handle 9 is the PART 2 3 of it; the others are views past it, of which 5 is
  // one of another PART, and 4 of a PART of the REVERSED.
  private static final String OF_LIST =
      """
      make 0 0, add 0 1, add 0 2, add 0 3, add 0 4 = answers
      reversed 1 0, part 2 0 0 4, shifted 3 0 10, part 4 1 0 4, reversed 5 2 = answers
      part 9 0 1 3 = answers
      show 9 = 2 3
      """;

  // VALUES 1 of key 1: 1 2 3 4; 2 of key 2: 5. Handle 9 is the PART 2 3 of VALUES 1.
  private static final String OF_VALUES =
      """
      make 0 6, ofMap 1 0 1, ofMap 2 0 2, ofMap 3 0 8, ofMap 4 0 1, reversed 5 4 = answers
      add 1 1, add 1 2, add 1 3, add 1 4, add 2 5, shifted 6 1 10, part 7 1 0 4 = answers
      part 9 1 1 3 = answers
      show 9 = 2 3
      """;

  private static void waysOfList() {
    String[] ways = {
      "add 0 5", "insert 0 0 5", "insert 0 2 5", "insert 0 4 5", "take 0 0", "take 0 1", "take 0 3",
      "remove 0 1", "remove 0 2", "remove 0 4", "add 1 5", "insert 1 0 5", "insert 1 2 5",
      "take 1 0", "take 1 3", "remove 1 3", "add 2 5", "insert 2 0 5", "take 2 0", "take 2 2",
      "remove 2 4", "take 3 0", "take 3 3", "remove 3 12", "add 4 5", "insert 4 1 5", "take 4 0",
      "remove 4 4", "add 5 5", "insert 5 0 5", "take 5 3", "remove 5 4"
    };
    becomesStale(OF_LIST, ways);
  }

  private static void waysOfValues() {
    String[] ways = {
      "add 1 6", "insert 1 0 6", "take 1 0", "take 1 2", "remove 1 4", "add 4 6", "insert 4 4 6",
      "take 4 3", "remove 4 1", "add 5 6", "insert 5 2 6", "take 5 0", "remove 5 3", "take 0 0",
      "take 0 1", "take 0 3", "remove 0 4", "take 3 0", "remove 3 1", "take 6 1", "remove 6 14",
      "add 7 6", "insert 7 0 6", "take 7 0", "remove 7 2"
    };
    becomesStale(OF_VALUES, ways);
  }

  private static void becomesStale(String ground, String[] ways) {
    for (String way : ways) {
      SCRIPTS.run(
          "STALE while the CHANGES are others: " + way,
          ground
              + (way + " = answers\n")
              + """
              about 9 4 = 1
              size 9, at 9 0, mean 9 = !ISE
              """);
    }
  }

  private static void noWaysOfList() {
    String[] ways = {
      "put 0 0 9", "put 0 3 9", "put 1 3 9", "put 2 0 9", "put 4 0 9", "put 5 0 9", "size 0",
      "about 0 3", "find 0 4", "mean 0", "alike 0 9", "reversed 8 0", "part 8 0 0 4",
      "shifted 8 0 1", "copy 8 1 0", "combine 8 9 0 9", "hold 8 0", "hold 0 -1", "hold 8 9",
      "make 0 0", "make 8 6",
      // Changes that go through the PART, at the next level or from farther up.
      "add 9 5", "insert 9 0 5", "take 9 0", "take 9 1", "remove 9 3", "put 9 1 5"
    };
    staysFresh(OF_LIST, ways);
    refusalLeavesFresh(
        OF_LIST,
        new String[] {
          "insert 0 5 9 = !IOOBE", "insert 0 -1 9 = !IOOBE", "take 0 4 = !IOOBE",
          "put 0 4 9 = !IOOBE", "remove 0 9 = !NSEE", "add 3 9 = !UOE", "put 3 0 9 = !UOE",
          "take 1 4 = !IOOBE", "remove 2 9 = !NSEE", "insert 9 3 9 = !IOOBE", "take 9 2 = !IOOBE",
          "remove 9 1 = !NSEE", "remove 9 4 = !NSEE", "put 9 2 9 = !IOOBE", "add 8 1 = !IAE"
        });
    StringBuilder full = new StringBuilder(OF_LIST);
    for (int i = 5; i <= 16; i++) {
      full.append("add 9 0 = ").append(i - 2).append('\n');
    }
    full.append("add 0 9, insert 0 0 9, add 1 9, add 9 9, insert 9 0 9 = !ISE\n");
    full.append("about 9 4 = 0\nsize 9 = 14\nabout 9 3 = 16\n");
    SCRIPTS.run("not STALE: past the LIMIT of a LIST nothing is put in", full.toString());
  }

  private static void noWaysOfValues() {
    String[] ways = {
      "put 1 0 9", "put 4 1 9", "put 5 0 9", "put 7 3 9", "add 2 6", "insert 2 0 6", "take 2 0",
      "remove 2 5", "take 0 4", "remove 0 5", "take 3 1", "remove 3 2", "hold 1 -1", "hold 0 -1",
      "ofMap 8 0 1", "ofMap 8 0 8", "copy 8 1 0", "copy 8 2 3", "combine 8 9 0 3", "add 9 6",
      "insert 9 2 6", "take 9 1", "remove 9 2", "put 9 0 6"
    };
    staysFresh(OF_VALUES, ways);
    refusalLeavesFresh(
        OF_VALUES,
        new String[] {
          "insert 1 5 9 = !IOOBE", "take 1 4 = !IOOBE", "take 0 5 = !IOOBE", "take 3 2 = !IOOBE",
          "remove 3 0 = !NSEE", "remove 0 9 = !NSEE", "remove 1 5 = !NSEE", "add 0 9 = !UOE",
          "add 3 9 = !UOE", "put 3 0 9 = !UOE", "put 0 0 9 = !UOE", "add 6 9 = !UOE"
        });
    SCRIPTS.run(
        "not STALE: the same key of another MULTIMAP",
        OF_VALUES
            + """
            make 8 6, ofMap 8 8 1 = answers
            add 8 1 = 1
            take 8 0 = 1
            about 9 4 = 0
            show 9 = 2 3
            """);
  }

  private static void noWaysOfCopies() {
    SCRIPTS.run(
        "not STALE: a PART with a FROZEN or SORTED below, whatever becomes of the LIST",
        """
        make 0 0, add 0 3, add 0 1, add 0 2, copy 1 1 0, copy 2 2 0 = answers
        part 3 1 0 2, part 4 2 1 3, shifted 5 2 10, part 6 5 0 3, part 7 3 1 2 = answers
        add 0 5, take 0 0, put 0 0 9 = answers
        hold 0 -1 = -1
        about 3 4, about 4 4, about 6 4, about 7 4 = 0
        show 3 = 3 1
        show 4 = 2 3
        show 6 = 11 12 13
        show 7 = 1
        """);
  }

  private static void staysFresh(String ground, String[] ways) {
    for (String way : ways) {
      String looks = "about 9 4 = 0\nsize 9, at 9 0, mean 9 = answers\n";
      SCRIPTS.run("not STALE: " + way, ground + way + " = answers\n" + looks);
    }
  }

  private static void refusalLeavesFresh(String ground, String[] refused) {
    for (String call : refused) {
      SCRIPTS.run("not STALE: " + call, ground + call + "\nabout 9 4 = 0\nshow 9 = 2 3\n");
    }
  }

  private static void forGood() {
    SCRIPTS.run(
        "STALE: no change below takes it back",
        OF_LIST
            + """
            add 0 5 = 5
            about 9 4 = 1
            take 0 4 = 5            # the same ints as before
            show 0 = 1 2 3 4
            about 9 4 = 1
            size 9 = !ISE
            put 0 0 1 = 1
            insert 0 0 0 = 5
            remove 0 0 = 0
            about 9 4 = 1
            add 9 1, take 9 0, put 9 0 1, remove 9 2 = !ISE     # nor one that is refused
            about 9 4 = 1
            part 8 0 1 3 = answers  # a new one is not STALE
            show 8 = 2 3
            about 8 4 = 0
            about 9 4 = 1
            """);
  }

  private static void partOverPart() {
    SCRIPTS.run(
        "STALE: of one under another",
        """
        make 0 0, add 0 1, add 0 2, add 0 3, add 0 4, add 0 5 = answers
        part 1 0 0 5 = 2
        part 2 1 1 4 = 3
        part 3 2 1 2 = 4
        show 3 = 3
        add 3 9 = 2             # goes through 3, 2, 1
        about 1 4, about 2 4, about 3 4 = 0
        show 3 = 3 9
        show 2 = 2 3 9 4
        show 1 = 1 2 3 9 4 5
        take 2 0 = 2            # goes through 2 and 1, not through 3
        about 1 4, about 2 4 = 0
        about 3 4 = 1
        size 3 = !ISE
        show 2 = 3 9 4
        show 1 = 1 3 9 4 5
        insert 1 0 0 = 6        # through 1 alone
        about 1 4 = 0
        about 2 4, about 3 4 = 1
        size 2 = !ISE
        show 1 = 0 1 3 9 4 5
        add 0 6 = 7
        about 1 4 = 1
        size 1 = !ISE
        """);
  }

  private static void oneOfTwoParts() {
    SCRIPTS.run(
        "STALE: of two PARTS over one BASE the other",
        """
        make 0 0, add 0 1, add 0 2, add 0 3, add 0 4 = answers
        part 1 0 0 2 = 2
        part 2 0 2 4 = 3
        put 1 0 9 = 1           # no CHANGE: both stay
        show 2 = 3 4
        hold 3 1 = 4            # the same PART by another handle
        add 3 8 = 3
        about 1 4, about 3 4 = 0
        about 2 4 = 1
        show 1 = 9 2 8
        show 0 = 9 2 8 3 4
        size 2 = !ISE
        part 2 0 3 5 = 4
        take 2 1 = 4
        about 2 4 = 0
        about 1 4, about 3 4 = 1
        size 1, size 3 = !ISE
        """);
  }

  private static void notesAfterEachChange() {
    SCRIPTS.run(
        "a PART notes the CHANGES after each change that goes through it",
        """
        make 0 0, add 0 1, add 0 2, add 0 3 = answers
        part 1 0 1 2 = 2
        add 1 5 = 2
        add 1 6 = 3
        insert 1 0 7 = 4
        insert 1 2 8 = 5
        show 1 = 7 2 8 5 6
        show 0 = 1 7 2 8 5 6 3
        take 1 4 = 6
        take 1 0 = 7
        remove 1 8 = 1
        put 1 1 9 = 5
        show 1 = 2 9
        show 0 = 1 2 9 3
        about 1 3, about 0 3 = 10
        take 1 0 = 2
        take 1 0 = 9
        size 1, about 1 4 = 0
        show 0 = 1 3
        add 1 4 = 1
        show 0 = 1 4 3
        """);
    SCRIPTS.run(
        "a PART notes the CHANGES when it is made",
        """
        make 0 0, add 0 1, add 0 2, take 0 0, add 0 3 = answers
        part 1 0 0 1 = 2        # there were CHANGES before
        about 1 3 = 4
        about 1 4 = 0
        show 1 = 2
        """);
  }

  private static void notesThroughOthers() {
    SCRIPTS.run(
        "a change goes through a PART from a view over it",
        """
        make 0 6, ofMap 0 0 3, add 0 1, add 0 2, add 0 3 = answers
        reversed 1 0 = 3
        part 2 1 0 2 = 4        # 3 2
        reversed 3 2 = 5        # 2 3
        part 4 3 0 2 = 6
        shifted 5 4 10 = 7      # 12 13
        add 3 7 = 3             # through 3, 2 and 1, not 4
        about 1 4, about 2 4, about 3 4 = 0
        about 4 4, about 5 4 = 1
        show 2 = 7 3 2
        show 0 = 1 2 3 7
        part 4 3 0 2 = 8        # 2 3
        shifted 5 4 10 = 9
        take 5 1 = 13           # through 5, 4, 3, 2 and 1
        about 2 4, about 3 4, about 4 4, about 5 4 = 0
        show 4 = 2
        show 2 = 7 2
        show 0 = 1 2 7
        remove 5 12 = 0
        show 0 = 1 7
        size 4, size 5 = 0
        size 2, size 3 = 1
        """);
  }

  private static void emptyPart() {
    SCRIPTS.run(
        "STALE: a PART without ELEMENTS is no other",
        """
        make 0 0 = 1
        part 1 0 0 0 = 2
        add 1 5 = 1
        show 0 = 5
        part 2 0 1 1 = 3
        part 3 0 0 0 = 4
        add 2 6 = 1             # behind the one that was there
        show 0 = 5 6
        size 1, size 3, mean 3, at 3 0, find 3 1, take 3 0, remove 3 1, add 3 1 = !ISE
        take 2 0 = 6
        size 2 = 0
        take 0 0 = 5
        size 2, mean 2 = !ISE
        """);
  }

  private static void belowAnother() {
    SCRIPTS.run(
        "STALE: whoever has a STALE one below it, of one under another",
        """
        make 0 0, add 0 1, add 0 2, reversed 1 0, part 2 1 0 2 = answers
        shifted 3 2 1, reversed 4 3, part 5 4 0 1 = answers
        about 5 2 = 6
        about 2 4, about 3 4, about 4 4, about 5 4 = 0
        add 1 9 = 3
        about 0 4, about 1 4 = 0        # they have no PART
        about 2 4, about 3 4, about 4 4, about 5 4 = 1
        size 2, size 3, size 4, size 5 = !ISE
        show 1 = 2 1 9
        """);
  }

  private static void belowOneOfTwo() {
    SCRIPTS.run(
        "STALE: whoever has a STALE one below it, of two",
        """
        make 0 0, add 0 1, make 1 0, add 1 2, part 2 0 0 1 = answers
        combine 3 9 2 1, combine 4 10 1 2, combine 5 11 3 1, combine 6 9 1 4 = answers
        combine 7 9 0 1, copy 8 1 3 = answers
        about 3 4, about 4 4, about 5 4, about 6 4, about 7 4 = 0
        add 1 3 = 2                     # not the PART's BASE
        show 3 = 1 2 3
        take 0 0 = 1
        about 2 4, about 3 4, about 4 4, about 5 4, about 6 4 = 1
        size 3, size 4, size 5, size 6 = !ISE
        about 7 4, about 8 4 = 0
        show 7 = 2 3                    # of the BASE itself, not of its PART
        show 8 = 1 2                    # FROZEN has none below it
        """);
  }

  private static void eachCall() {
    for (String ground : Kinds.madeStale()) {
      SCRIPTS.run(
          "to look at or do anything with a NODE that is STALE",
          ground
              + """
              about 9 4 = 1
              size 9, at 9 0, at 9 -1, at 9 99, find 9 4, find 9 99, mean 9 = !ISE
              alike 9 0, alike 0 9, alike 9 9, alike 9 1, alike 1 9 = !ISE
              copy 4 1 9, copy 4 2 9, combine 4 9 9 0, combine 4 10 0 9, combine 4 11 9 9 = !ISE
              about 4 0 = !IAE
              show 0 = 4 2 4 1 7
              """);
    }
    // The first five are ROWS; the third alone is SHIFTED, and the fifth has one below.
    for (int i = 0; i < 5; i++) {
      String writing = i == 2 || i == 4 ? "!UOE" : "!ISE";
      SCRIPTS.run(
          "to do anything with a ROW that is STALE",
          Kinds.madeStale().get(i)
              + ("add 9 1, insert 9 0 1, insert 9 -1 1, put 9 0 1, put 9 99 1 = " + writing + "\n")
              + """
              take 9 0, take 9 -1, take 9 99, remove 9 4, remove 9 99 = !ISE
              part 4 9 0 0, part 4 9 1 0, part 4 9 -1 99 = !ISE
              shifted 4 9 1, reversed 4 9 = !ISE
              about 4 0 = !IAE
              show 0 = 4 2 4 1 7
              about 0 3 = 5
              """);
    }
  }

  private static void handleMayBeCopied() {
    for (String ground : Kinds.madeStale()) {
      SCRIPTS.run(
          "copying its handle does not throw",
          ground
              + """
              hold 4 9, hold 9 9, hold 0 4 = answers
              about 4 4, about 0 4 = 1
              size 4, size 0 = !ISE
              hold 9 -1, hold 4 -1, hold 0 -1 = -1
              size 9 = !IAE
              """);
    }
  }

  private static void aboutStale() {
    SCRIPTS.run(
        "about: none of these throws IllegalStateException",
        """
        make 0 0, add 0 1, part 1 0 0 1, shifted 2 1 1, combine 3 11 0 2 = answers
        add 0 2 = 2
        about 1 0 = 4
        about 2 0 = 5
        about 3 0 = 11
        about 1 1, about 2 1 = 1
        about 3 1 = 2
        about 1 2 = 2
        about 2 2 = 3
        about 3 2 = 4
        about 1 3, about 2 3 = 2
        about 1 4, about 2 4, about 3 4 = 1
        about 3 3, about 1 5, about 1 -1, about 3 5 = !IAE
        """);
  }
}
