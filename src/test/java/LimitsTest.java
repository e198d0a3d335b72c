/** LIMITS: the last that may be, the first that may not, by each way to come there. */
public final class LimitsTest {
  private static final Scripts SCRIPTS = new Scripts();

  public static void main(String[] args) {
    eachMakerAsTheLast();
    refusedMakersDoNotCount();
    letGoGivesNoRoom();
    answersHowManyWereMade();
    eachWayIntoFullList();
    fullListIsReadAndPut();
    roomAgainInList();
    listsOfTheirOwn();
    eachWayIntoFullMap();
    fullByOneKey();
    roomAgainInMap();
    mapsOfTheirOwn();
    copyOfMost();
    copyOfTooMany();
    mostOfTwo();
    lastCall();
    SCRIPTS.end("LimitsTest");
  }

  private static final String[] MAKERS = {
    "make 8 0", "make 8 6", "copy 8 1 0", "copy 8 2 0", "reversed 8 0", "part 8 0 0 1",
    "shifted 8 0 1", "ofMap 8 1 0", "ofMap 8 1 8", "combine 8 9 0 1", "combine 8 10 0 1",
    "combine 8 11 0 1"
  };

  /** A LIST in handle 0 with one int, a MULTIMAP in 1, and as many made as said. */
  private static String made(int many) {
    StringBuilder script = new StringBuilder("make 0 0 = 1\nadd 0 5 = 1\nmake 1 6 = 2\n");
    for (int i = 3; i <= many; i++) {
      script.append("make 2 0 = ").append(i).append('\n');
    }
    return script.toString();
  }

  private static void eachMakerAsTheLast() {
    for (String maker : MAKERS) {
      SCRIPTS.run(
          "40 NODES are made in all: " + maker,
          made(39)
              + (maker + " = 40\nabout 8 0 = answers\n")
              + ("hold 8 -1 = -1\n" + maker + " = !ISE\nabout 8 0 = !IAE\n")
              + ("hold 8 0 = 0\n" + maker + " = !ISE\nshow 8 = 5\n")
              + "make 9 0 = !ISE\n");
    }
  }

  private static void refusedMakersDoNotCount() {
    SCRIPTS.run(
        "40 NODES: those that threw were not made",
        made(39)
            + """
            make 10 0, make 8 1, copy 8 0 0, copy 8 1 9, reversed 8 1, part 8 1 0 0 = !IAE
            shifted -1 0 0, ofMap 8 0 0, ofMap 8 1 9, combine 8 12 0 1, combine 8 9 0 9 = !IAE
            part 8 0 0 2, part 8 0 1 0, part 8 0 -1 1 = !IOOBE
            make 8 0 = 40
            """);
    SCRIPTS.run(
        "40 NODES: those that threw past another LIMIT were not made",
        made(32)
            + """
            combine 3 9 0 1 = 33
            combine 4 9 3 1 = 34
            combine 8 9 4 1, combine 8 9 3 3 = !ISE         # LEAVES
            reversed 5 0, reversed 5 5, reversed 5 5, reversed 5 5, reversed 5 5 = answers
            reversed 8 5, shifted 8 5 1, part 8 5 0 0, combine 8 9 5 0 = !ISE       # HEIGHT
            size 8 = !IAE
            make 8 0 = 40
            make 8 0 = !ISE
            """);
    SCRIPTS.run(
        "40 NODES: those that threw over a STALE one were not made",
        made(38)
            + """
            part 3 0 0 1 = 39
            add 0 6 = 2
            reversed 8 3, part 8 3 0 0, shifted 8 3 1, copy 8 1 3, combine 8 9 0 3 = !ISE
            make 8 6 = 40
            """);
  }

  private static void letGoGivesNoRoom() {
    SCRIPTS.run(
        "40 NODES are made in all, held or not",
        made(40)
            + """
            hold 0 -1, hold 1 -1, hold 2 -1 = -1
            make 0 0, make 0 6 = !ISE
            size 0 = !IAE
            """);
  }

  private static void answersHowManyWereMade() {
    SCRIPTS.run(
        "make answers how many NODES were made (so for all that make one)",
        """
        make 0 0 = 1
        make 1 6 = 2
        copy 2 1 0 = 3
        copy 3 2 0 = 4
        reversed 4 0 = 5
        part 5 0 0 0 = 6
        shifted 6 0 0 = 7
        ofMap 7 1 0 = 8
        ofMap 8 1 8 = 9
        combine 9 9 0 0 = 10
        combine 9 10 0 0 = 11
        combine 9 11 0 0 = 12
        hold 8 9 = 11           # makes none
        hold 7 -1 = -1
        add 0 1 = 1
        make 0 0 = 13
        make 0 0 = 14           # in the place of another
        """);
  }

  /** A LIST in handle 0 with 1, 2, .. up to a number; views in 1 to 4. */
  private static String list(int many) {
    StringBuilder script = new StringBuilder("make 0 0 = 1\n");
    for (int i = 1; i <= many; i++) {
      script.append("add 0 ").append(i).append(" = ").append(i).append('\n');
    }
    script.append("reversed 1 0, part 2 0 2 5, part 3 1 0 3, reversed 4 2 = answers\n");
    return script.toString();
  }

  private static void eachWayIntoFullList() {
    String[] ways = {
      "add 0 9", "insert 0 0 9", "insert 0 7 9", "insert 0 14 9", "add 1 9", "insert 1 0 9",
      "insert 1 14 9", "add 2 9", "insert 2 0 9", "insert 2 3 9", "add 3 9", "insert 3 1 9",
      "add 4 9", "insert 4 2 9"
    };
    for (String way : ways) {
      SCRIPTS.run(
          "a LIST has at most 16 ints: " + way,
          list(14)
              + (way + " = answers\nsize 0 = 15\n" + way + " = answers\nsize 0, size 1 = 16\n")
              + (way + " = !ISE\nsize 0, size 1, about 0 3 = 16\n"));
    }
  }

  private static void fullListIsReadAndPut() {
    SCRIPTS.run(
        "a LIST of 16: all but INSERT can be done",
        list(16)
            + """
            add 0 0, insert 0 16 0, add 1 0, insert 1 0 0, add 2 0, insert 4 0 0 = !ISE
            insert 0 17 0, insert 0 -1 0, insert 1 17 0, insert 2 4 0, insert 3 -1 0 = !IOOBE
            shifted 5 0 1, copy 6 1 0, copy 7 2 1, combine 8 9 0 1 = answers
            add 5 0, insert 5 99 0, add 6 0 = !UOE  # before the LIMIT
            size 0, size 5, size 6, size 7, size 8 = 16
            at 0 15, at 1 0, find 0 16, find 5 17 = answers
            mean 0 = 8.5
            put 0 15 0 = 16
            put 1 15 9 = 1
            show 0 = 9 2 3 4 5 6 7 8 9 10 11 12 13 14 15 0
            show 2 = 3 4 5
            about 0 3 = 16
            """);
  }

  private static void roomAgainInList() {
    SCRIPTS.run(
        "a LIST of 16: has room again when an int was taken out",
        list(16)
            + """
            take 0 15 = 16
            add 0 20 = 16
            add 0 21 = !ISE
            remove 1 1 = 15
            insert 1 16 22 = !IOOBE
            insert 1 15 22 = 16
            add 1 23 = !ISE
            show 0 = 22 2 3 4 5 6 7 8 9 10 11 12 13 14 15 20
            about 0 3 = 20
            """);
  }

  private static void listsOfTheirOwn() {
    SCRIPTS.run(
        "a LIST of 16: another has its own room",
        list(16)
            + """
            make 5 0, make 6 6, ofMap 7 6 0 = answers
            add 5 1 = 1
            add 7 1 = 1
            add 0 1 = !ISE
            """);
  }

  /** A MULTIMAP in handle 0, 3 ints for each of the keys 0 .. 6 and as many more for 6. */
  private static String map(int more) {
    StringBuilder script = new StringBuilder("make 0 6, ofMap 8 0 8 = answers\n");
    for (int key = 0; key <= 6; key++) {
      script.append("ofMap 1 0 ").append(key).append(" = answers\n");
      int many = key == 6 ? 3 + more : 3;
      for (int i = 1; i <= many; i++) {
        script.append("add 1 ").append(10 * key + i).append(" = ").append(i).append('\n');
      }
    }
    // 2 and 3: the first of the keys and the one that is not THERE; views of VALUES.
    script.append("ofMap 2 0 0, ofMap 3 0 7, reversed 4 1, part 5 2 1 2, reversed 6 3, ");
    script.append("part 7 3 0 0 = answers\nsize 0 = ").append(21 + more).append('\n');
    return script.toString();
  }

  private static void eachWayIntoFullMap() {
    String[] ways = {
      "add 1 9", "insert 1 0 9", "insert 1 3 9", "add 2 9", "insert 2 3 9", "add 3 9",
      "insert 3 0 9", "add 4 9", "insert 4 0 9", "insert 4 3 9", "add 5 9", "insert 5 0 9",
      "add 6 9", "insert 6 0 9", "add 7 9", "insert 7 0 9"
    };
    for (String way : ways) {
      SCRIPTS.run(
          "a MULTIMAP has at most 24 ints: " + way,
          map(0)
              + (way + " = answers\n" + way + " = answers\nsize 0 = 23\n")
              + (way + " = answers\nsize 0 = 24\n" + way + " = !ISE\nsize 0 = 24\n"));
    }
    SCRIPTS.run(
        "a MULTIMAP of 24: a key that is not THERE does not come to be so",
        map(3)
            + """
            add 3 9, insert 3 0 9, add 6 9, add 7 9 = !ISE
            insert 3 1 9, insert 6 -1 9 = !IOOBE
            add 0 9, insert 0 0 9, add 8 9, insert 8 8 9 = !UOE     # before the LIMIT
            size 3, about 3 3, about 7 4 = 0
            show 8 = 0 1 2 3 4 5 6
            put 2 0 9 = 1
            at 0 0 = 9
            """);
  }

  private static void fullByOneKey() {
    StringBuilder script = new StringBuilder("make 0 6, ofMap 1 0 3, ofMap 2 0 4 = answers\n");
    for (int i = 1; i <= 24; i++) {
      script.append("add 1 ").append(i).append(" = ").append(i).append('\n');
    }
    script.append(
        """
        add 1 25, insert 1 0 25, insert 1 24 25, add 2 1 = !ISE
        insert 1 25 25 = !IOOBE
        size 0, size 1, about 1 3 = 24
        at 1 23, at 0 23 = 24
        size 2 = 0
        """);
    SCRIPTS.run("a MULTIMAP has at most 24 ints: all of one key", script.toString());
  }

  private static void roomAgainInMap() {
    SCRIPTS.run(
        "a MULTIMAP of 24: has room again when ints were taken out",
        map(3)
            + """
            add 3 9 = !ISE
            take 2 0 = 1
            add 3 9 = 1
            add 3 9 = !ISE
            take 0 0 = 2
            add 3 8 = 2
            add 3 8 = !ISE
            take 8 1 = 1            # three at once
            add 3 7 = 3
            insert 2 0 6 = 2
            add 4 5 = 7
            add 3 4, add 2 4, add 4 4 = !ISE
            size 0 = 24
            show 8 = 0 2 3 4 5 6 7
            """);
  }

  private static void mapsOfTheirOwn() {
    SCRIPTS.run(
        "a MULTIMAP of 24: another has its own room",
        map(3)
            + """
            make 9 6, ofMap 9 9 0 = answers
            add 9 1 = 1
            make 9 0 = answers
            add 9 1 = 1
            add 1 1 = !ISE
            """);
  }

  /** A MULTIMAP in handle 0 with 0, 1, .. 23, and a LIST in 1 with as many from 100 on as said. */
  private static String mapAndList(int many) {
    StringBuilder script = new StringBuilder("make 0 6, ofMap 2 0 5, make 1 0 = answers\n");
    for (int i = 0; i < 24; i++) {
      script.append("add 2 ").append(i).append(" = ").append(i + 1).append('\n');
    }
    for (int i = 0; i < many; i++) {
      script.append("add 1 ").append(100 + i).append(" = ").append(i + 1).append('\n');
    }
    return script.toString();
  }

  private static void copyOfMost() {
    SCRIPTS.run(
        "a FROZEN or SORTED has at most 24 ints: 24",
        mapAndList(0)
            + """
            copy 3 1 0, copy 4 2 0, copy 5 1 2, combine 6 9 0 1, copy 7 1 6, copy 8 2 6 = answers
            size 3, size 4, size 5, size 7, size 8 = 24
            alike 3 0, alike 4 0, alike 7 3, alike 8 4 = true
            at 3 23, at 8 23 = 23
            copy 9 1 3, copy 9 2 4 = answers
            size 9 = 24
            """);
    SCRIPTS.run(
        "SORTED has at most 24 ints: of 24 of which some are the same",
        mapAndList(0)
            + """
            put 2 23 0 = 23
            put 2 0 22 = 0
            copy 3 2 0 = 4
            size 3 = 23
            at 3 0 = 0
            at 3 22 = 22
            """);
  }

  private static void copyOfTooMany() {
    for (int many = 1; many <= 16; many += 15) {
      SCRIPTS.run(
          "a FROZEN or SORTED has at most 24 ints: " + (24 + many),
          mapAndList(many)
              + ("combine 3 9 0 1 = 4\nsize 3 = " + (24 + many) + "\n")
              + """
              hold 4 1 = 0
              copy 4 1 3, copy 4 2 3, copy 5 1 3 = !ISE
              about 4 0 = 0
              about 5 0 = !IAE
              combine 6 10 3 0 = 5
              copy 5 1 6 = 6          # of fewer, with more below
              size 5 = 24
              """);
    }
    SCRIPTS.run(
        "a FROZEN or SORTED has at most 24 ints: 25, and 24 again",
        mapAndList(1)
            + """
            combine 3 9 1 0 = 4
            copy 5 2 3 = !ISE
            take 2 0 = 0
            copy 5 2 3 = 5
            size 5 = 24
            at 5 0 = 1
            at 5 23 = 100
            add 2 50 = 24
            copy 5 1 3 = !ISE
            put 1 0 50 = 100        # in both: once
            copy 5 1 3 = 6
            at 5 0 = 50
            size 5 = 24
            """);
  }

  private static void mostOfTwo() {
    SCRIPTS.run(
        "a UNION has no LIMIT of its own",
        mapAndList(16)
            + """
            shifted 3 2 1000, combine 4 9 0 3, combine 5 9 4 1, combine 6 9 1 4 = answers
            size 4 = 48
            size 5, size 6 = 64
            at 5 63 = 115
            at 6 0 = 100
            at 6 63, at 5 47 = 1023
            at 5 64 = !IOOBE
            shifted 7 2 2000, combine 8 9 4 7, combine 9 9 7 4 = answers
            size 8, size 9 = 72
            at 8 71, at 9 23 = 2023
            at 9 71 = 1023
            at 8 72 = !IOOBE
            find 8 2023 = 71
            find 9 1023 = 71
            mean 8, mean 9 = 1011.5
            alike 8 8 = true
            alike 8 9 = false
            combine 7 10 4 0, combine 6 11 4 0 = answers
            size 7, size 6 = 24
            combine 5 11 8 7 = !ISE
            """);
  }

  private static void lastCall() {
    // 512 calls in all, and each of them answers as it is due.
    StringBuilder script = new StringBuilder("make 0 6 = 1\nofMap 1 0 7 = 2\n");
    for (int i = 0; i < 254; i++) {
      script.append("add 1 ").append(i).append(" = 1\ntake 0 0 = ").append(i).append('\n');
    }
    script.append("about 1 3 = 508\nsize 0 = 0\n");
    SCRIPTS.run("an object is used for at most 512 calls", script.toString());
  }
}
