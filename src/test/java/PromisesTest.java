/** Each promise at its edges, a sentence at a time; what all KINDS have in common is elsewhere. */
public final class PromisesTest {
  private static final Scripts SCRIPTS = new Scripts();

  public static void main(String[] args) {
    newObject();
    eachObjectItsOwn();
    make();
    copy();
    reversed();
    partPlaces();
    shifted();
    ofMap();
    combine();
    hold();
    holdOfNothing();
    size();
    at();
    find();
    addAnswers();
    insertAnswers();
    putAnswers();
    takeAnswers();
    removeAnswers();
    mean();
    meanOfLongSum();
    alike();
    about();
    SCRIPTS.end("PromisesTest");
  }

  private static void newObject() {
    for (int handle = 0; handle <= 9; handle++) {
      String[] calls = {
        "copy 1 1 %d", "reversed 1 %d", "part 1 %d 0 0", "shifted 1 %d 0", "ofMap 1 %d 0",
        "combine 1 9 %d %d", "size %d", "at %d 0", "find %d 0", "add %d 0", "insert %d 0 0",
        "put %d 0 0", "take %d 0", "remove %d 0", "mean %d", "alike %d %d", "about %d 0",
        "about %d 4"
      };
      String script = "hold 0 " + handle + " = -1\n";
      for (String call : calls) {
        script += call.formatted(handle, handle) + " = !IAE\n";
      }
      SCRIPTS.run("promise 1: all handles hold nothing", script);
    }
  }

  private static void eachObjectItsOwn() {
    // The second object is new, whatever became of the first.
    String script = "make 0 6 = 1\nofMap 1 0 3 = 2\nadd 1 5 = 1\nabout 1 3 = 1\nshow 0 = 5\n";
    SCRIPTS.run("promise 1: a new object", script);
    SCRIPTS.run("promise 1: a new object, again", "size 0, size 1 = !IAE\n" + script);
  }

  private static void make() {
    for (int to = 0; to <= 9; to++) {
      int other = (to + 3) % 10;
      String script =
          """
          make T 0 = 1
          about T 0, size T, about T 3, about T 4 = 0
          about T 1, about T 2 = 1
          make O 6 = 2
          about O 0 = 6
          size O, about O 4 = 0
          add T 5 = 1
          make O 0 = 3            # in the place of the MULTIMAP
          about O 0, size O = 0
          make T 0 = 4            # a new one, empty
          size T, about T 3 = 0
          make T 6 = 5
          size T = 0
          """;
      script = script.replace(" T", " " + to).replace(" O", " " + other);
      SCRIPTS.run("promise 2: to 0 .. 9, kind 0 or 6", script);
    }
    SCRIPTS.run(
        "promise 2: other handles, other kinds",
        """
        make -1 0, make 10 0, make -1 6, make 10 6, make MIN 0, make MAX 6 = !IAE
        make 0 -1, make 0 1, make 0 2, make 0 3, make 0 4, make 0 5, make 0 7, make 0 8 = !IAE
        make 0 9, make 0 10, make 0 11, make 0 12, make 0 MIN, make 0 MAX = !IAE
        size 0 = !IAE
        make 0 0 = 1
        """);
  }

  private static void copy() {
    SCRIPTS.run(
        "promise 3: kind 1 or 2: FROZEN or SORTED, of a NODE",
        """
        make 0 0, add 0 2, add 0 1, add 0 2 = answers
        copy 0 0 0, copy 0 3 0, copy 0 -1 0, copy 0 4 0, copy 0 MIN 0, copy 0 MAX 0 = !IAE
        copy -1 1 0, copy 10 1 0, copy 1 1 -1, copy 1 1 10, copy 1 1 1, copy 1 2 9 = !IAE
        copy 9 1 0 = 2
        copy 0 2 0 = 3              # in the place of the one that is copied
        about 0 0 = 2
        show 0 = 1 2
        show 9 = 2 1 2
        copy 9 2 9 = 4
        alike 0 9 = true
        """);
  }

  private static void reversed() {
    SCRIPTS.run(
        "promise 4: REVERSED over a ROW",
        """
        make 0 0, add 0 1, add 0 2 = answers
        reversed 0 0 = 2            # in the place of its own BASE
        about 0 0 = 3
        show 0 = 2 1
        add 0 3 = 3
        show 0 = 2 1 3
        reversed 9 0 = 3
        show 9 = 3 1 2
        reversed -1 0, reversed 10 0, reversed 1 -1, reversed 1 10, reversed 1 5 = !IAE
        """);
  }

  private static void partPlaces() {
    for (int start = -1; start <= 4; start++) {
      for (int end = -1; end <= 4; end++) {
        boolean there = 0 <= start && start <= end && end <= 3;
        String call = "part 9 0 " + start + " " + end;
        SCRIPTS.run(
            "promise 5: not 0 .. START .. end .. the number of ELEMENTS: " + call,
            "make 0 0, add 0 1, add 0 2, add 0 3 = answers\n"
                + (call + " = " + (there ? "2\nsize 9 = " + (end - start) : "!IOOBE") + "\n")
                + (there ? "" : "size 9 = !IAE\n")
                + (there && end > start ? "at 9 0 = " + (start + 1) + "\n" : "")
                + (there && end > start ? "at 9 " + (end - start - 1) + " = " + end + "\n" : ""));
      }
    }
    SCRIPTS.run(
        "promise 5: START and end far off",
        """
        make 0 0, add 0 1 = answers
        part 9 0 MIN 1, part 9 0 0 MAX, part 9 0 MAX MAX, part 9 0 MIN MIN = !IOOBE
        part 9 0 MAX MIN, part 9 0 MIN MAX, part 9 0 1 MIN, part 9 0 MAX 0 = !IOOBE
        part 9 0 -1 MAX, part 9 0 1 0 = !IOOBE
        make 1 0 = 2
        part 9 1 0 0 = 3
        part 8 1 0 1, part 8 1 1 1, part 8 1 -1 0, part 8 1 -1 -1 = !IOOBE
        part 8 9 0 1 = !IOOBE
        part 8 0 0 1 = 4
        part 8 8 1 1 = 5
        part 8 8 0 1 = !IOOBE       # its BASE is empty, though the LIST is not
        """);
  }

  private static void shifted() {
    SCRIPTS.run(
        "promise 6: SHIFTED over a ROW by a number",
        """
        make 0 0, add 0 1, add 0 -1 = answers
        shifted 1 0 0 = 2
        shifted 2 0 MAX = 3
        shifted 3 0 MIN = 4
        shifted 4 0 -1 = 5
        show 1 = 1 -1
        show 2 = -2147483648 2147483646
        show 3 = -2147483647 2147483647
        show 4 = 0 -2
        shifted 0 0 5 = 6           # in the place of its own BASE
        show 0 = 6 4
        """);
  }

  private static void ofMap() {
    for (int key = -2; key <= 10; key++) {
      String due = key < 0 || key > 8 ? "!IAE" : "2\nabout 9 0 = " + (key == 8 ? 8 : 7);
      SCRIPTS.run(
          "promise 7: VALUES of key 0 .. 7, or KEYS for key 8",
          "make 0 6 = 1\nofMap 9 0 " + key + " = " + due + "\n");
    }
    SCRIPTS.run(
        "promise 7: of a MULTIMAP",
        """
        make 0 6 = 1
        ofMap 9 0 MIN, ofMap 9 0 MAX, ofMap 10 0 0, ofMap -1 0 8, ofMap 9 1 0, ofMap 9 10 8 = !IAE
        ofMap 0 0 0 = 2             # in the place of its MULTIMAP
        ofMap 1 0 0 = !IAE
        add 0 5 = 1
        show 0 = 5
        """);
  }

  private static void combine() {
    for (int kind = 7; kind <= 13; kind++) {
      String due = kind < 9 || kind > 11 ? "!IAE" : "2\nabout 9 0 = " + kind;
      SCRIPTS.run(
          "promise 8: kind 9, 10 or 11",
          "make 0 0 = 1\ncombine 9 " + kind + " 0 0 = " + due + "\n");
    }
    SCRIPTS.run(
        "promise 8: of two NODES",
        """
        make 0 0, add 0 1, make 9 0, add 9 2 = answers
        combine 1 9 0 9 = 3
        combine 2 9 9 0 = 4
        show 1 = 1 2
        show 2 = 2 1
        combine 0 11 1 9 = 5        # in the place of one that is below
        show 0 = 1
        combine 1 10 1 0, combine 5 9 1 2 = !ISE
        combine 1 9 1 3, combine 1 9 3 1, combine 1 9 10 1, combine 1 9 1 -1 = !IAE
        show 1 = 1 2
        """);
  }

  private static void hold() {
    SCRIPTS.run(
        "promise 9: to 0 .. 9, from -1 .. 9: the handle holds what 'from' holds",
        """
        make 0 0 = 1
        make 9 6 = 2
        hold 1 0 = 0
        hold 8 9 = 6
        hold 0 9 = 6
        hold 9 1 = 0
        add 1 5 = 1                 # the same NODE in both
        show 9 = 5
        about 0 0, about 8 0 = 6
        hold 9 9 = 0                # what it holds already
        show 9 = 5
        hold -1 0, hold 10 0, hold MIN 0, hold MAX -1, hold -1 -1, hold 10 -1 = !IAE
        hold 0 -2, hold 0 10, hold 0 MIN, hold 0 MAX = !IAE
        about 0 0 = 6
        make 2 0 = 3                # hold makes no NODE
        """);
  }

  private static void holdOfNothing() {
    SCRIPTS.run(
        "promise 9: nothing for -1, and where 'from' holds nothing",
        """
        make 0 0 = 1
        add 0 5 = 1
        hold 1 0 = 0
        hold 2 0 = 0
        hold 0 -1 = -1
        size 0 = !IAE
        hold 0 -1 = -1              # held nothing already
        hold 1 7 = -1               # 7 holds nothing: so does 1 then
        size 1, about 1 0 = !IAE
        show 2 = 5
        hold 7 7 = -1
        hold 2 0 = -1
        size 2 = !IAE
        make 2 0 = 2
        """);
  }

  private static void size() {
    SCRIPTS.run(
        "promise 10: how many ELEMENTS",
        """
        make 0 0 = 1
        size 0 = 0
        add 0 5 = 1
        size 0 = 1
        add 0 5 = 2
        size 0 = 2
        combine 1 9 0 0 = 2
        size 1 = 1                  # each int once
        take 0 0 = 5
        take 0 0 = 5
        size 0, size 1 = 0
        size -1, size 10, size MIN, size MAX, size 2 = !IAE
        """);
  }

  private static void at() {
    SCRIPTS.run(
        "promise 11: the ELEMENT at a place",
        """
        make 0 0, add 0 MIN, add 0 0, add 0 MAX = answers
        at 0 0 = MIN
        at 0 1 = 0
        at 0 2 = MAX
        at 0 3, at 0 -1, at 0 MIN, at 0 MAX, at 0 16, at 0 72 = !IOOBE
        combine 1 9 0 0, combine 2 9 1 0 = answers
        at 2 2 = MAX
        at 2 3, at 2 4 = !IOOBE
        take 0 2 = MAX
        at 0 2, at 2 2 = !IOOBE     # no more
        at 5 0, at 10 0, at -1 0 = !IAE
        """);
  }

  private static void find() {
    SCRIPTS.run(
        "promise 12: the first place of an int among the ELEMENTS",
        """
        make 0 0, add 0 MAX, add 0 0, add 0 MIN, add 0 0, add 0 MAX, add 0 -1 = answers
        find 0 MAX = 0
        find 0 0 = 1
        find 0 MIN = 2
        find 0 -1 = 5
        find 0 1, find 0 5, find 0 -2 = !NSEE
        reversed 1 0 = 2
        find 1 MAX = 1
        find 1 0 = 2
        find 1 -1 = 0
        part 2 0 1 4 = 3
        find 2 0 = 0
        find 2 MAX, find 2 -1 = !NSEE       # only past its ends
        take 0 0 = MAX
        find 0 MAX = 3
        remove 0 MAX = 3
        find 0 MAX = !NSEE
        find 7 0, find 10 0, find -1 0 = !IAE
        """);
  }

  private static void addAnswers() {
    SCRIPTS.run(
        "promise 13: at the end of a NODE; how many ELEMENTS it has then",
        """
        make 0 0, add 0 1, add 0 2, add 0 3, part 1 0 1 2, reversed 2 1 = answers
        add 1 5 = 2                 # it, not its BASE
        add 2 6 = 3                 # the end of this one is the start of that
        show 1 = 6 2 5
        show 0 = 1 6 2 5 3
        make 3 6, ofMap 4 3 1, ofMap 5 3 2 = answers
        add 4 1 = 1
        add 5 1 = 1                 # its list, not the MULTIMAP
        add 4 MAX = 2
        add 4 MIN = 3
        show 3 = 1 2147483647 -2147483648 1
        """);
  }

  private static void insertAnswers() {
    SCRIPTS.run(
        "promise 14: at place i of a NODE; how many ELEMENTS it has then",
        """
        make 0 0, add 0 1, add 0 2, add 0 3, part 1 0 1 2 = answers
        insert 1 0 5 = 2
        insert 1 2 6 = 3            # the end is a place for it
        insert 1 4 7, insert 1 -1 7, insert 1 MIN 7, insert 1 MAX 7 = !IOOBE
        show 1 = 5 2 6
        show 0 = 1 5 2 6 3
        part 2 0 0 1 = answers
        insert 2 1 8 = 2
        insert 0 6 9 = 7
        insert 0 0 4 = 8
        show 0 = 4 1 8 5 2 6 3 9
        insert 0 9 7, insert 0 -1 7 = !IOOBE
        """);
  }

  private static void putAnswers() {
    SCRIPTS.run(
        "promise 15: the ELEMENT that was there",
        """
        make 0 0, add 0 1, add 0 2, add 0 1 = answers
        put 0 2 MAX = 1
        put 0 2 MAX = MAX           # the same again
        put 0 0 MIN = 1
        put 0 0 0 = MIN
        show 0 = 0 2 2147483647
        put 0 3 5, put 0 -1 5, put 0 MIN 5, put 0 MAX 5 = !IOOBE        # the end is no place
        size 0, about 0 3 = 3
        """);
  }

  private static void takeAnswers() {
    SCRIPTS.run(
        "promise 16: the ELEMENT that was there",
        """
        make 0 0, add 0 MAX, add 0 2, add 0 3, shifted 1 0 1, reversed 2 1 = answers
        take 2 2 = MIN              # as it was seen there
        take 1 0 = 3
        take 0 0 = 3
        take 0 0, take 1 0, take 2 0, take 0 -1 = !IOOBE
        make 3 6, ofMap 4 3 6, add 4 60, add 4 61, ofMap 5 3 8 = answers
        take 5 0 = 6                # the key
        take 5 0, take 3 0, take 4 0 = !IOOBE
        about 4 3 = 4
        """);
  }

  private static void removeAnswers() {
    SCRIPTS.run(
        "promise 17: the first place of an int; answers that place",
        """
        make 0 0, add 0 5, add 0 6, add 0 5, add 0 6, reversed 1 0, shifted 2 0 1 = answers
        remove 0 6 = 1
        show 0 = 5 5 6
        remove 1 5 = 1              # the first from the end
        show 0 = 5 6
        remove 2 5, remove 2 8, remove 0 7 = !NSEE
        remove 2 7 = 1
        show 0 = 5
        remove 1 5 = 0
        remove 0 5, remove 1 5, remove 2 6 = !NSEE
        about 0 3 = 8
        """);
  }

  private static void mean() {
    SCRIPTS.run(
        "promise 18: the sum of the ELEMENTS, divided by their number",
        """
        make 0 0 = 1
        mean 0 = !NSEE
        add 0 0 = 1
        mean 0 = 0.0
        put 0 0 -7 = 0
        mean 0 = -7.0
        add 0 -8 = 2
        mean 0 = -7.5
        add 0 16 = 3
        mean 0 = 0.3333333333333333
        put 0 2 14 = 16
        mean 0 = -0.3333333333333333
        put 0 2 15 = 14
        mean 0 = 0.0
        combine 1 9 0 0 = 2
        mean 1 = 0.0
        add 0 15 = 4
        mean 1 = 0.0                # each int once
        mean 0 = 3.75
        take 0 0, take 0 0, take 0 0, take 0 0 = answers
        mean 0, mean 1 = !NSEE
        mean 2, mean 10, mean -1 = !IAE
        """);
  }

  private static void meanOfLongSum() {
    SCRIPTS.run(
        "promise 18: the sum as a long",
        """
        make 0 0, add 0 MAX, add 0 MAX = answers
        mean 0 = 2.147483647E9
        add 0 MAX, add 0 MAX, add 0 MAX = answers
        mean 0 = 2.147483647E9
        make 1 0, add 1 MIN = answers
        mean 1 = -2.147483648E9
        add 1 MIN, add 1 MIN = answers
        mean 1 = -2.147483648E9
        put 1 0 MAX = MIN
        put 1 1 MAX = MIN
        mean 1 = 7.15827882E8
        combine 2 9 0 1 = 3
        mean 2 = -0.5
        shifted 3 0 1 = 4
        mean 3 = -2.147483648E9     # of the ELEMENTS as they wrapped
        """);
  }

  private static void alike() {
    SCRIPTS.run(
        "promise 19: the same ELEMENTS in the same order",
        """
        make 0 0, make 1 6, ofMap 2 1 0, ofMap 3 1 8 = answers
        alike 0 0, alike 0 1, alike 1 0, alike 0 2, alike 2 3, alike 3 0 = true     # both empty
        add 2 0 = 1
        alike 0 1, alike 1 0 = false
        alike 1 2, alike 2 3, alike 3 1 = true      # whatever their KINDS
        add 0 0 = 1
        alike 0 3 = true
        add 0 1 = 2
        alike 0 3, alike 3 0 = false                # one more at the end
        add 2 1 = 2
        alike 0 2, alike 2 0 = true
        put 0 0 1 = 0
        put 0 1 0 = 1
        alike 0 2 = false                           # in another order
        put 0 1 1 = 0
        alike 0 2, alike 2 0 = false                # the first alone is another
        put 0 1 0 = 1
        reversed 4 0 = 5
        alike 4 2, alike 2 4, alike 4 4 = true
        add 0 0 = 3
        combine 5 9 0 0 = 6
        alike 0 5, alike 5 0 = false                # the same ints, but one of them twice
        combine 6 9 2 2, combine 7 9 6 0 = answers
        alike 6 7, alike 7 6 = true
        alike 0 8, alike 8 0, alike 8 8, alike 10 0, alike 0 10, alike -1 0, alike 0 -1 = !IAE
        """);
  }

  private static void about() {
    SCRIPTS.run(
        "promise 20: another what",
        """
        make 0 0, make 1 6 = answers
        about 0 -1, about 0 5, about 0 6, about 0 MIN, about 0 MAX, about 1 -1, about 1 5 = !IAE
        about 0 0, about 0 3, about 0 4, about 1 4 = 0
        about 0 1, about 0 2, about 1 1, about 1 2 = 1
        about 1 0 = 6
        about 1 3, about 2 0, about 2 4, about 10 0, about -1 4, about 2 9 = !IAE
        """);
  }
}
