/** Promises 13 to 17: the calls that change NODES. */
public final class ChangingTest {
  private static final Scripts SCRIPTS = new Scripts();

  public static void main(String[] args) {
    add();
    insert();
    throughReversed();
    throughPart();
    fullList();
    fullMap();
    put();
    take();
    takeFromMap();
    takeFromKeys();
    remove();
    notSupported();
    notSupportedBelow();
    staleAndOrder();
    SCRIPTS.end("ChangingTest");
  }

  private static void add() {
    SCRIPTS.run(
        "promise 13: add",
        """
        make 0 0 = 1
        add 0 5 = 1
        add 0 5 = 2
        add 0 MIN = 3
        show 0 = 5 5 -2147483648
        reversed 1 0 = 2
        add 1 7 = 4             # the end of a REVERSED is its BASE's start
        show 0 = 7 5 5 -2147483648
        show 1 = -2147483648 5 5 7
        part 2 0 1 2 = 3
        add 2 8 = 2             # the end of the PART
        show 2 = 5 8
        show 0 = 7 5 8 5 -2147483648
        make 3 6 = 4
        ofMap 4 3 0 = 5
        ofMap 5 3 7 = 6
        add 5 70 = 1
        add 4 1 = 1
        add 5 71 = 2            # the end of its list, not of the MULTIMAP
        show 5 = 70 71
        show 3 = 70 71 1
        add -1 0, add 10 0, add 9 0, add MIN 0 = !IAE
        """);
  }

  private static void insert() {
    SCRIPTS.run(
        "promise 14: insert",
        """
        make 0 0 = 1
        insert 0 1 5, insert 0 -1 5, insert 0 MAX 5, insert 0 MIN 5 = !IOOBE
        insert 0 0 5 = 1
        insert 0 0 4 = 2
        insert 0 2 7 = 3
        insert 0 2 6 = 4
        show 0 = 4 5 6 7
        insert 0 5 8, insert 0 -1 8 = !IOOBE
        show 0 = 4 5 6 7
        about 0 3 = 4
        make 1 6 = 2
        ofMap 2 1 5 = 3
        ofMap 3 1 2 = 4
        ofMap 4 1 8 = 5
        insert 2 1 1 = !IOOBE
        insert 2 0 2 = 1
        insert 3 0 8 = 1
        insert 2 0 1 = 2
        insert 2 3 9 = !IOOBE   # there is a third place in the MULTIMAP, but not in the list
        insert 2 2 3 = 3
        show 2 = 1 2 3
        show 3 = 8
        show 1 = 1 2 3 8
        show 4 = 5 2
        insert -1 0 0, insert 10 0 0, insert 9 0 0, insert 9 -1 0 = !IAE
        """);
  }

  private static void throughReversed() {
    SCRIPTS.run(
        "promises 13 to 17: through REVERSED",
        """
        make 0 0 = 1
        add 0 1 = 1
        add 0 2 = 2
        add 0 3 = 3
        reversed 1 0 = 2
        reversed 2 1 = 3
        insert 1 0 10 = 4
        show 0 = 1 2 3 10
        insert 1 1 11 = 5
        show 0 = 1 2 3 11 10
        insert 2 1 12 = 6
        show 0 = 1 12 2 3 11 10
        insert 1 6 13 = 7
        show 0 = 13 1 12 2 3 11 10
        insert 1 8 1, insert 1 -1 1 = !IOOBE
        put 1 0 20 = 10
        put 1 6 21 = 13
        put 2 1 22 = 1
        show 0 = 21 22 12 2 3 11 20
        put 1 7 1, put 1 -1 1, take 1 7, take 1 -1 = !IOOBE
        take 1 0 = 20
        take 1 5 = 21
        take 2 0 = 22
        show 1 = 11 3 2 12
        add 0 3 = 5
        remove 1 3 = 0          # the first from the end
        show 0 = 12 2 3 11
        about 0 3, about 1 3, about 2 3 = 12
        """);
  }

  private static void throughPart() {
    SCRIPTS.run(
        "promises 13 to 17: through PART",
        """
        make 0 0 = 1
        add 0 0 = 1
        add 0 1 = 2
        add 0 2 = 3
        add 0 3 = 4
        part 1 0 1 3 = 2
        insert 1 0 10 = 3
        show 0 = 0 10 1 2 3
        insert 1 3 11 = 4
        show 1 = 10 1 2 11
        show 0 = 0 10 1 2 11 3
        insert 1 5 1, insert 1 -1 1, put 1 4 1, put 1 -1 1, take 1 4, take 1 -1 = !IOOBE
        put 1 3 12 = 11
        put 1 0 13 = 10
        take 1 1 = 1
        show 1 = 13 2 12
        show 0 = 0 13 2 12 3
        remove 1 0, remove 1 3 = !NSEE  # they are outside the PART
        remove 1 12 = 2
        take 1 0 = 13
        take 1 0 = 2
        take 1 0 = !IOOBE
        size 1 = 0
        show 0 = 0 3
        add 1 9 = 1
        show 0 = 0 9 3
        reversed 2 0 = 3
        part 3 2 0 1 = 4
        add 3 8 = 2             # PART of REVERSED
        show 3 = 3 8
        show 0 = 0 9 8 3
        size 1 = !ISE
        """);
  }

  private static void fullList() {
    StringBuilder script = new StringBuilder("make 0 0 = 1\n");
    for (int i = 1; i <= 16; i++) {
      script.append("add 0 ").append(i).append(" = ").append(i).append('\n');
    }
    script.append(
        """
        reversed 1 0 = 2
        part 2 0 3 5 = 3
        add 0 1, add 1 1, add 2 1, insert 0 0 1, insert 0 16 1, insert 1 3 1, insert 2 2 1 = !ISE
        insert 0 17 1, insert 1 17 1, insert 2 3 1, insert 2 -1 1 = !IOOBE      # before the LIMIT
        size 0, size 1, about 0 3 = 16
        show 2 = 4 5            # not STALE: nothing was changed
        put 2 0 44 = 4
        take 2 1 = 5
        insert 2 1 55 = 2
        add 2 1 = !ISE
        show 2 = 44 55
        size 0 = 16
        """);
    SCRIPTS.run("promises 13 and 14: 16 ints in a LIST", script.toString());
  }

  private static void fullMap() {
    StringBuilder script = new StringBuilder("make 0 6 = 1\n");
    script.append("ofMap 1 0 0 = 2\nofMap 2 0 3 = 3\nofMap 3 0 7 = 4\nofMap 4 0 8 = 5\n");
    for (int i = 1; i <= 20; i++) {
      script.append("add 1 ").append(i).append(" = ").append(i).append('\n');
    }
    script.append(
        """
        add 2 1 = 1
        add 2 2 = 2
        add 2 3 = 3
        add 2 4 = 4
        size 0 = 24
        reversed 5 2 = 6
        add 1 1, add 2 1, add 3 1, add 5 1, insert 3 0 1, insert 1 4 1, insert 5 2 1 = !ISE
        insert 3 1 1, insert 2 5 1, insert 5 -1 1 = !IOOBE
        size 3 = 0
        show 4 = 0 3
        take 0 3 = 4
        add 3 9 = 1
        size 0 = 24
        show 4 = 0 3 7
        add 3 9 = !ISE
        take 4 0 = 0
        size 0 = 5
        size 1 = 0
        """);
    SCRIPTS.run("promises 13 and 14: 24 ints in a MULTIMAP", script.toString());
  }

  private static void put() {
    SCRIPTS.run(
        "promise 15: put",
        """
        make 0 0 = 1
        put 0 0 1 = !IOOBE
        add 0 5 = 1
        add 0 6 = 2
        put 0 1 MAX = 6
        put 0 0 7 = 5
        put 0 0 7 = 7
        show 0 = 7 2147483647
        put 0 2 1, put 0 -1 1, put 0 MAX 1, put 0 MIN 1 = !IOOBE
        about 0 3 = 2           # PUT is no CHANGE
        make 1 6 = 2
        ofMap 2 1 4 = 3
        ofMap 3 1 1 = 4
        put 2 0 1 = !IOOBE      # puts nothing in
        add 2 40 = 1
        add 3 10 = 1
        add 3 11 = 2
        put 3 1 12 = 11
        put 2 0 41 = 40
        put 2 1 1, put 3 2 1 = !IOOBE
        show 1 = 41 10 12
        about 2 3 = 1
        put -1 0 0, put 10 0 0, put 9 0 0, put 9 5 0 = !IAE
        """);
  }

  private static void take() {
    SCRIPTS.run(
        "promise 16: take",
        """
        make 0 0 = 1
        take 0 0 = !IOOBE
        add 0 1 = 1
        add 0 2 = 2
        add 0 3 = 3
        add 0 4 = 4
        take 0 4, take 0 -1, take 0 MAX, take 0 MIN = !IOOBE
        take 0 1 = 2
        take 0 2 = 4
        show 0 = 1 3
        about 0 3 = 6
        shifted 1 0 100 = 2
        take 1 2, take 1 -1 = !IOOBE
        take 1 1 = 103          # the ELEMENT as it is seen there
        show 0 = 1
        take 0 0 = 1
        size 0, size 1 = 0
        take 0 0, take 1 0 = !IOOBE
        make 2 6 = 3
        ofMap 3 2 6 = 4
        ofMap 4 2 5 = 5
        add 3 1 = 1
        add 3 2 = 2
        add 4 3 = 1
        take 4 1, take 3 2, take 3 -1 = !IOOBE
        take 3 0 = 1
        show 2 = 2 3
        take 4 0 = 3
        show 2 = 2
        take -1 0, take 10 0, take 9 0, take 9 7 = !IAE
        """);
  }

  private static void takeFromMap() {
    SCRIPTS.run(
        "promises 16 and 17: from a MULTIMAP",
        """
        make 0 6 = 1
        ofMap 1 0 1 = 2
        ofMap 2 0 2 = 3
        ofMap 3 0 8 = 4
        take 0 0 = !IOOBE
        remove 0 1 = !NSEE
        add 2 20 = 1
        add 1 10 = 1
        add 2 21 = 2
        add 1 20 = 2
        show 0 = 20 21 10 20
        take 0 4, take 0 -1 = !IOOBE
        take 0 1 = 21
        show 2 = 20
        about 2 3 = 3
        about 1 3 = 2
        remove 0 20 = 0         # the first, in the order of the keys
        size 2 = 0
        show 3 = 1
        show 0 = 10 20
        remove 0 20 = 1
        remove 0 20 = !NSEE
        take 0 0 = 10
        size 0, size 3 = 0
        about 1 3, about 2 3 = 4
        """);
  }

  private static void takeFromKeys() {
    SCRIPTS.run(
        "promises 16 and 17: from KEYS",
        """
        make 0 6 = 1
        ofMap 1 0 1 = 2
        ofMap 2 0 2 = 3
        ofMap 3 0 3 = 4
        ofMap 4 0 8 = 5
        take 4 0 = !IOOBE
        add 2 5 = 1
        add 3 6 = 1
        add 2 7 = 2
        add 1 5 = 1
        add 3 8 = 2
        add 3 9 = 3
        show 4 = 2 3 1
        take 4 3, take 4 -1 = !IOOBE
        take 4 1 = 3            # with all its ints
        show 4 = 2 1
        show 0 = 5 7 5
        about 3 3 = 6           # each of them counts
        about 1 3 = 1
        remove 4 5, remove 4 3, remove 4 0, remove 4 8 = !NSEE
        remove 4 1 = 1
        show 0 = 5 7
        take 4 0 = 2
        about 2 3 = 4
        size 0, size 1, size 2, size 3, size 4 = 0
        """);
  }

  private static void remove() {
    SCRIPTS.run(
        "promise 17: remove",
        """
        make 0 0 = 1
        remove 0 0 = !NSEE
        add 0 5 = 1
        add 0 6 = 2
        add 0 5 = 3
        add 0 7 = 4
        remove 0 8, remove 0 MIN = !NSEE
        remove 0 6 = 1
        remove 0 5 = 0
        show 0 = 5 7
        about 0 3 = 6
        shifted 1 0 10 = 2
        remove 1 5 = !NSEE
        remove 1 17 = 1         # the int as it is seen there
        show 0 = 5
        reversed 2 1 = 3
        add 0 6 = 2
        remove 2 15 = 1
        show 0 = 6
        make 3 6 = 4
        ofMap 4 3 0 = 5
        ofMap 5 3 1 = 6
        add 4 1 = 1
        add 5 2 = 1
        remove 4 2 = !NSEE      # in the list of another key
        remove 5 2 = 0
        show 3 = 1
        remove -1 0, remove 10 0, remove 9 0 = !IAE
        """);
  }

  private static void notSupported() {
    SCRIPTS.run(
        "promises 13 to 17: not SUPPORTED",
        """
        make 0 0 = 1
        add 0 1 = 1
        copy 1 1 0 = 2
        copy 2 2 0 = 3
        shifted 3 0 1 = 4
        make 4 6 = 5
        ofMap 5 4 0 = 6
        add 5 1 = 1
        ofMap 5 4 8 = 7
        combine 6 9 0 0 = 8
        combine 7 10 0 0 = 9
        combine 8 11 0 4 = 10
        add 1 1, add 2 1, add 3 1, add 4 1, add 5 1, add 6 1, add 7 1, add 8 1 = !UOE
        insert 1 0 1, insert 2 0 1, insert 3 0 1, insert 4 0 1, insert 5 0 1 = !UOE
        insert 6 0 1, insert 7 0 1, insert 8 0 1, insert 1 9 1, insert 6 -1 1 = !UOE
        put 1 0 1, put 2 0 1, put 3 0 1, put 4 0 1, put 5 0 1, put 6 0 1, put 7 0 1 = !UOE
        put 8 0 1, put 1 9 1, put 3 -1 1, put 6 9 1 = !UOE
        take 1 0, take 2 0, take 6 0, take 7 0, take 8 0, take 1 9, take 6 -1 = !UOE
        remove 1 1, remove 2 1, remove 6 1, remove 7 1, remove 8 1, remove 1 9, remove 6 9 = !UOE
        size 0, size 1, size 2, size 3, size 4, size 5, size 6, size 7, about 0 3 = 1
        """);
  }

  private static void notSupportedBelow() {
    SCRIPTS.run(
        "promises 13 to 17: not SUPPORTED below",
        """
        make 0 0 = 1
        add 0 1 = 1
        add 0 2 = 2
        copy 1 1 0 = 2
        copy 2 2 0 = 3
        reversed 3 1 = 4
        part 4 2 0 1 = 5
        shifted 5 1 1 = 6
        add 3 1, insert 3 0 1, put 3 0 1, take 3 0, remove 3 1 = !UOE
        add 4 1, insert 4 0 1, put 4 0 1, take 4 0, remove 4 1 = !UOE
        add 5 1, insert 5 0 1, put 5 0 1, take 5 0, remove 5 2 = !UOE
        reversed 6 4 = 7
        add 6 1, put 6 0 1, take 6 0, insert 6 9 1 = !UOE
        shifted 7 0 10 = 8
        part 8 7 0 2 = 9
        reversed 9 8 = 10
        add 8 1, insert 8 0 1, put 8 0 1, add 9 1, insert 9 9 1, put 9 0 1 = !UOE
        take 9 0 = 12           # TAKE goes through SHIFTED
        remove 8 11 = 0
        size 0, size 8, size 9 = 0
        """);
  }

  private static void staleAndOrder() {
    SCRIPTS.run(
        "promises 13 to 17: STALE, and what is thrown first",
        """
        make 0 0 = 1
        add 0 1 = 1
        part 1 0 0 1 = 2
        reversed 2 1 = 3
        shifted 3 1 0 = 4
        combine 4 9 1 0 = 5
        add 0 2 = 2
        add 1 1, insert 1 0 1, put 1 0 1, take 1 0, remove 1 1 = !ISE
        add 2 1, insert 2 0 1, put 2 0 1, take 2 0, remove 2 1 = !ISE
        take 3 0, remove 3 1 = !ISE
        insert 1 9 1, put 1 -1 1, take 1 9, remove 1 9, take 3 9, remove 3 9 = !ISE
        add 3 1, insert 3 0 1, put 3 0 1, insert 3 9 1 = !UOE           # before STALE
        add 4 1, insert 4 0 1, put 4 0 1, take 4 0, remove 4 1 = !UOE
        show 0 = 1 2
        about 0 3 = 2
        """);
  }
}
