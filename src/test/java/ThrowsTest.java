/** What is thrown, and which of two reasons first. */
public final class ThrowsTest {
  private static final Scripts SCRIPTS = new Scripts();

  // 0 a LIST 5 6, 1 a MULTIMAP, 2 nothing, 3 a PART that is STALE, 4 a SHIFTED over it, 5 a FROZEN,
  // 6 a SHIFTED over the LIST, 7 KEYS, 8 a UNION with the STALE one below; 9 a LIST.
  private static final String GROUND =
      """
      make 0 0, add 0 5, make 1 6, part 3 0 0 1, shifted 4 3 1, ofMap 7 1 8 = answers
      combine 8 9 1 3, make 9 0, add 0 6, copy 5 1 0, shifted 6 0 1 = answers
      about 3 4, about 4 4, about 8 4 = 1
      """;

  public static void main(String[] args) {
    handles();
    otherNumbers();
    kindsThatAreNotTold();
    argumentBeforeUnsupported();
    argumentBeforeStale();
    argumentBeforePlace();
    argumentBeforeLimit();
    unsupportedBeforeStale();
    unsupportedBeforePlace();
    unsupportedBeforeNotThere();
    unsupportedBeforeLimit();
    staleBeforePlace();
    staleBeforeNotThere();
    placeBeforeLimit();
    SCRIPTS.end("ThrowsTest");
  }

  // Each call as it answers; T stands where 'to' is, N where a NODE is needed.
  private static final String[] CALLS = {
    "make T9 0", "copy T9 1 N0", "copy T9 2 N1", "reversed T9 N0", "part T9 N0 0 1",
    "shifted T9 N0 3", "ofMap T9 N1 0", "ofMap T9 N1 8", "combine T9 9 N0 N1", "hold T9 0",
    "hold T9 -1", "size N0", "at N0 0", "find N0 5", "add N0 7", "insert N0 0 7", "put N0 0 7",
    "take N0 0", "remove N0 5", "mean N0", "alike N0 N1", "about N0 0", "about N0 3", "about N0 4"
  };

  private static void handles() {
    for (String call : CALLS) {
      String[] words = call.split(" ");
      run("a call as it answers", plain(words) + " = answers");
      for (int i = 1; i < words.length; i++) {
        if (words[i].matches("[TN].")) {
          for (String none : new String[] {"-1", "10", "MIN", "MAX"}) {
            run("a handle out of the range 0 .. 9", with(words, i, none) + " = !IAE");
          }
          boolean needed = words[i].startsWith("N");
          String due = needed ? "!IAE" : "answers";
          run("a handle that holds nothing (except 'to')", with(words, i, "2") + " = " + due);
        }
        if (words[i].startsWith("T")) {
          run("'to' 0", with(words, i, "0") + " = answers");
          run("'to' 3, STALE", with(words, i, "3") + " = answers");
        }
      }
    }
    for (String call : CALLS) {
      if (!call.contains("N0")) {
        continue;
      }
      String at9 = plain(call.replace("N0", "N9").replace("T9", "T0").split(" "));
      SCRIPTS.run(
          "a handle: the last one",
          "make 9 0, add 9 5, add 9 6, make 1 6 = answers\n" + at9 + " = answers\n");
    }
  }

  private static String plain(String[] words) {
    return String.join(" ", words).replaceAll("[TN](?=.( |$))", "");
  }

  private static String with(String[] words, int i, String handle) {
    String[] others = words.clone();
    others[i] = handle;
    return plain(others);
  }

  private static void run(String title, String line) {
    SCRIPTS.run(title, GROUND + line + "\n");
  }

  private static void otherNumbers() {
    run(
        "another number out of the range that is told",
        """
        make 9 -1, make 9 1, make 9 5, make 9 7, make 9 MIN, make 9 MAX = !IAE
        copy 9 0 0, copy 9 3 0, copy 9 -1 0, copy 9 MIN 0, copy 9 MAX 0 = !IAE
        ofMap 9 1 -1, ofMap 9 1 9, ofMap 9 1 MIN, ofMap 9 1 MAX = !IAE
        combine 9 8 0 1, combine 9 12 0 1, combine 9 -1 0 1, combine 9 MIN 0 1 = !IAE
        combine 9 MAX 0 1, combine 9 0 0 1 = !IAE
        hold 9 -2, hold 9 10, hold 9 MIN, hold 9 MAX = !IAE
        about 0 -1, about 0 5, about 0 MIN, about 0 MAX, about 1 3, about 7 3, about 8 3 = !IAE
        size 9 = 0
        make 9 0 = 10
        make 9 6 = 11
        copy 9 1 0 = 12
        copy 9 2 0 = 13
        ofMap 9 1 0 = 14
        ofMap 9 1 7 = 15
        ofMap 9 1 8 = 16
        combine 9 9 0 1 = 17
        combine 9 10 0 1 = 18
        combine 9 11 0 1 = 19
        """);
  }

  private static void kindsThatAreNotTold() {
    run(
        "a NODE of a KIND that is not told",
        """
        reversed 9 1, reversed 9 7, part 9 1 0 0, part 9 7 0 0, shifted 9 1 0, shifted 9 7 0 = !IAE
        combine 9 10 0 0 = 10
        reversed 9 9, part 9 9 0 0, shifted 9 9 0 = !IAE
        combine 9 11 0 0 = 11
        reversed 9 9, part 9 9 0 0, shifted 9 9 0 = !IAE
        ofMap 9 0 0, ofMap 9 5 0, ofMap 9 6 8, ofMap 9 7 0, ofMap 9 7 8, ofMap 9 9 0 = !IAE
        ofMap 9 1 0 = 12
        ofMap 9 9 0, ofMap 9 9 8 = !IAE
        """);
  }

  private static void argumentBeforeUnsupported() {
    run(
        "IllegalArgumentException before UnsupportedOperationException",
        """
        add 2 1, insert 2 0 1, put 2 0 1, take 2 0, remove 2 0, add 10 1, take -1 0 = !IAE
        add 5 1, insert 5 0 1, put 5 0 1, take 5 0, remove 5 5 = !UOE
        """);
  }

  private static void argumentBeforeStale() {
    run(
        "IllegalArgumentException before STALE",
        """
        copy 10 1 3, copy 9 0 3, copy 9 3 3, reversed 10 3, reversed -1 4 = !IAE
        part 10 3 0 0, shifted -1 3 0, combine 10 9 3 0, combine 9 8 3 0, combine 9 12 3 3 = !IAE
        combine 9 9 3 2, combine 9 9 2 3, combine 9 9 3 10, combine 9 9 -1 3 = !IAE
        alike 3 2, alike 2 3, alike 3 10, alike -1 3, alike 8 -1 = !IAE
        reversed 9 8, part 9 8 0 0, shifted 9 8 0 = !IAE        # no ROW
        ofMap 9 3 0, ofMap 9 4 8, ofMap 9 8 0 = !IAE            # no MULTIMAP
        about 8 3, about 3 5, about 3 -1 = !IAE
        copy 9 1 3, reversed 9 3, combine 9 9 3 0, combine 9 9 0 3, alike 3 0, alike 0 3 = !ISE
        """);
  }

  private static void argumentBeforePlace() {
    run(
        "IllegalArgumentException before IndexOutOfBoundsException",
        """
        part 10 0 0 9, part -1 0 -1 0, part 9 2 1 0, part 9 1 0 9, part 9 7 -1 0 = !IAE
        at 2 0, at 10 -1, insert 2 -1 0, insert 10 9 0, put 2 9 0, put -1 9 0, take 10 9 = !IAE
        part 9 0 0 9, part 9 0 -1 0, at 0 9, insert 0 9 0, put 0 9 0, take 0 9 = !IOOBE
        """);
    run(
        "IllegalArgumentException before NoSuchElementException",
        """
        find 2 9, find 10 9, remove 2 9, remove -1 9, mean 2, mean 10 = !IAE
        find 0 9, remove 0 9, mean 9, mean 1 = !NSEE
        """);
  }

  private static void argumentBeforeLimit() {
    StringBuilder script = new StringBuilder();
    for (int i = 10; i <= 40; i++) {
      script.append("make 9 0 = ").append(i).append('\n');
    }
    script.append(
        """
        make 10 0, make 9 1, copy 10 1 0, copy 9 3 0, copy 9 1 2, reversed 9 1, reversed 10 0 = !IAE
        part 10 0 0 0, part 9 1 0 0, shifted 9 1 0, shifted -1 0 0, ofMap 9 0 0, ofMap 9 1 9 = !IAE
        combine 9 8 0 0, combine 10 9 0 0, combine 9 9 2 0, combine 9 9 0 2 = !IAE
        make 9 0, copy 9 1 0, reversed 9 0, part 9 0 0 0, shifted 9 0 0, ofMap 9 1 8 = !ISE
        combine 9 9 0 0 = !ISE
        hold 9 0 = 0                # makes none
        """);
    run("IllegalArgumentException before the LIMIT of NODES", script.toString());
    run(
        "IllegalArgumentException before too many LEAVES",
        """
        combine 9 9 0 0 = 10
        combine 9 9 9 9, combine 2 9 9 9 = !ISE
        combine 10 9 9 9, combine 9 8 9 9, combine 9 12 9 9, combine 2 9 9 10 = !IAE
        """);
  }

  private static void unsupportedBeforeStale() {
    run(
        "UnsupportedOperationException before STALE",
        """
        add 4 1, insert 4 0 1, put 4 0 1, add 8 1, insert 8 0 1, put 8 0 1, take 8 0 = !UOE
        remove 8 5 = !UOE
        add 3 1, insert 3 0 1, put 3 0 1, take 3 0, remove 3 5, take 4 0, remove 4 6 = !ISE
        """);
  }

  private static void unsupportedBeforePlace() {
    run(
        "UnsupportedOperationException before IndexOutOfBoundsException",
        """
        insert 5 9 1, insert 5 -1 1, put 5 9 1, put 5 -1 1, take 5 9, take 5 -1 = !UOE
        insert 6 9 1, put 6 9 1, insert 7 9 1, put 7 9 1, insert 1 9 1, put 1 9 1 = !UOE
        insert 4 9 1, put 4 9 1, insert 8 9 1, put 8 9 1, take 8 9 = !UOE       # STALE as well
        take 6 9, take 7 9, take 1 9 = !IOOBE
        """);
  }

  private static void unsupportedBeforeNotThere() {
    run(
        "UnsupportedOperationException before NoSuchElementException",
        """
        remove 5 9, remove 8 9 = !UOE
        copy 9 2 0 = 10
        remove 9 9 = !UOE
        combine 9 10 0 0 = 11
        remove 9 9 = !UOE
        remove 6 9, remove 7 9, remove 1 9 = !NSEE
        """);
  }

  private static void unsupportedBeforeLimit() {
    StringBuilder script = new StringBuilder();
    for (int i = 3; i <= 16; i++) {
      script.append("add 0 7 = ").append(i).append('\n');
    }
    script.append("ofMap 2 1 0 = 10\n");
    for (int i = 1; i <= 24; i++) {
      script.append("add 2 7 = ").append(i).append('\n');
    }
    script.append(
        """
        add 6 1, insert 6 0 1, insert 6 99 1, add 1 1, insert 1 0 1, add 7 1, insert 7 0 1 = !UOE
        add 0 1, insert 0 0 1, add 2 1, insert 2 0 1 = !ISE
        copy 9 1 1 = 11             # a FROZEN with all that it may have
        size 9 = 24
        add 9 1, insert 9 0 1, insert 9 99 1 = !UOE
        """);
    run("UnsupportedOperationException before the LIMIT of ints", script.toString());
  }

  private static void staleBeforePlace() {
    run(
        "STALE before IndexOutOfBoundsException",
        """
        at 3 9, at 3 -1, at 4 9, at 8 9, insert 3 9 1, insert 3 -1 1, put 3 9 1, put 3 -1 1 = !ISE
        take 3 9, take 3 -1, take 4 9, part 9 3 0 9, part 9 3 -1 0, part 9 4 1 0 = !ISE
        at 0 9, insert 0 9 1, put 0 9 1, take 0 9, part 9 0 0 9 = !IOOBE
        """);
  }

  private static void staleBeforeNotThere() {
    run(
        "STALE before NoSuchElementException",
        """
        find 3 9, find 4 9, find 8 9, remove 3 9, remove 4 9 = !ISE
        part 3 0 0 0 = 10
        shifted 4 3 1 = 11
        mean 3, mean 4 = !NSEE
        take 0 0 = 5
        mean 3, mean 4, find 3 9, remove 3 9 = !ISE
        """);
  }

  private static void placeBeforeLimit() {
    StringBuilder full = new StringBuilder();
    for (int i = 3; i <= 16; i++) {
      full.append("add 0 7 = ").append(i).append('\n');
    }
    full.append(
        """
        insert 0 17 1, insert 0 -1 1, insert 0 MAX 1, insert 0 MIN 1 = !IOOBE
        insert 0 16 1, insert 0 0 1, add 0 1 = !ISE
        """);
    run("IndexOutOfBoundsException before the LIMIT of ints", full.toString());
    StringBuilder made = new StringBuilder();
    for (int i = 10; i <= 40; i++) {
      made.append("make 9 0 = ").append(i).append('\n');
    }
    made.append("part 9 0 0 3, part 9 0 -1 0, part 9 0 2 1 = !IOOBE\npart 9 0 0 2 = !ISE\n");
    run("IndexOutOfBoundsException before the LIMIT of NODES", made.toString());
    run(
        "IndexOutOfBoundsException before too much HEIGHT",
        """
        reversed 9 0, reversed 9 9, reversed 9 9, reversed 9 9, reversed 9 9 = answers
        about 9 2 = 6
        part 9 9 0 3, part 9 9 -1 0, part 9 9 2 1 = !IOOBE
        part 9 9 0 2 = !ISE
        """);
  }
}
