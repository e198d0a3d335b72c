import java.util.ArrayList;
import java.util.List;

/** Each call on each KIND: at its first place, its last, the first that there is not; and empty. */
public final class EachKindTest {
  private static final Scripts SCRIPTS = new Scripts();
  private static final String[] NO_PLACE = {"-1", "MIN", "MAX"};

  public static void main(String[] args) {
    for (int kind = 0; kind < Kinds.COUNT; kind++) {
      look(kind);
      aboutOf(kind);
      makeOver(kind);
      insert(kind);
      put(kind);
      take(kind);
      remove(kind);
      lookAtEmpty(kind);
      changeEmpty(kind);
    }
    SCRIPTS.end("EachKindTest");
  }

  private static void look(int kind) {
    List<Integer> elements = Kinds.elements(kind);
    int size = elements.size();
    StringBuilder script = new StringBuilder(Kinds.made(kind));
    script.append("size 9 = ").append(size).append('\n');
    long sum = 0;
    for (int i = 0; i < size; i++) {
      int v = elements.get(i);
      script.append("at 9 ").append(i).append(" = ").append(v).append('\n');
      script.append("find 9 ").append(v).append(" = ").append(elements.indexOf(v)).append('\n');
      sum += v;
    }
    for (String i : NO_PLACE) {
      script.append("at 9 ").append(i).append(" = !IOOBE\n");
    }
    script.append("at 9 ").append(size).append(" = !IOOBE\n");
    script.append("find 9 77, find 9 0, find 9 MIN = !NSEE\n");
    script.append("mean 9 = ").append(sum / (double) size).append('\n');
    script.append("alike 9 9 = true\ncopy 8 1 9 = answers\nalike 8 9, alike 9 8 = true\n");
    script.append("make 7 0 = answers\nalike 7 9, alike 9 7 = false\n");
    SCRIPTS.run("looking at KIND " + kind, script.toString());
  }

  private static void aboutOf(int kind) {
    boolean row = Kinds.ROWS.contains(kind);
    int leaves = kind >= 9 ? 2 : 1;
    int height = kind >= 9 || kind >= 3 && kind <= 5 ? 2 : 1;
    String changes = kind == 1 || kind == 2 ? "0" : kind == 7 ? "2" : row ? "4" : "!IAE";
    String script =
        Kinds.made(kind)
            + ("about 9 0, hold 9 9 = " + kind + "\nabout 9 1 = " + leaves + "\n")
            + ("about 9 2 = " + height + "\nabout 9 3 = " + changes + "\nabout 9 4 = 0\n")
            + "about 9 -1, about 9 5, about 9 MIN, about 9 MAX = !IAE\n";
    SCRIPTS.run("about KIND " + kind, script);
  }

  private static void makeOver(int kind) {
    String row = Kinds.ROWS.contains(kind) ? "answers" : "!IAE";
    String map = kind == 6 ? "answers" : "!IAE";
    String script =
        Kinds.made(kind)
            + ("reversed 8 9, part 8 9 0 1, shifted 8 9 1 = " + row + "\n")
            + ("ofMap 8 9 0, ofMap 8 9 7, ofMap 8 9 8 = " + map + "\n")
            + "copy 8 1 9, copy 8 2 9 = answers\n"
            + "combine 8 9 9 0, combine 8 10 0 9, combine 8 11 9 1 = answers\n";
    SCRIPTS.run("making one over KIND " + kind, script);
  }

  private static void insert(int kind) {
    List<Integer> elements = Kinds.elements(kind);
    int size = elements.size();
    String here = "insert 9 %s 77, ";
    String outside = here.formatted(size + 1);
    for (String i : NO_PLACE) {
      outside += here.formatted(i);
    }
    if (!Kinds.WRITABLE.contains(kind)) {
      refuse("inserting into", kind, outside + "insert 9 0 77, add 9 77", "!UOE");
      return;
    }
    refuse("inserting into", kind, outside.replaceAll(", $", ""), "!IOOBE");
    for (int i = 0; i <= size; i++) {
      List<Integer> then = new ArrayList<>(elements);
      then.add(i, 77);
      change("inserting into", kind, "insert 9 " + i + " 77", size + 1, then);
    }
    elements.add(77);
    change("adding to", kind, "add 9 77", size + 1, elements);
  }

  private static void put(int kind) {
    List<Integer> elements = Kinds.elements(kind);
    int size = elements.size();
    String outside = "put 9 -1 77, put 9 MIN 77, put 9 MAX 77, put 9 " + size + " 77";
    if (!Kinds.WRITABLE.contains(kind)) {
      refuse("putting into", kind, outside + ", put 9 0 77", "!UOE");
      return;
    }
    refuse("putting into", kind, outside, "!IOOBE");
    for (int i = 0; i < size; i++) {
      List<Integer> then = new ArrayList<>(elements);
      int old = then.set(i, 77);
      change("putting into", kind, "put 9 " + i + " 77", old, then);
    }
  }

  private static void take(int kind) {
    List<Integer> elements = Kinds.elements(kind);
    int size = elements.size();
    String outside = "take 9 -1, take 9 MIN, take 9 MAX, take 9 " + size;
    if (!Kinds.TAKABLE.contains(kind)) {
      refuse("taking from", kind, outside + ", take 9 0", "!UOE");
      return;
    }
    refuse("taking from", kind, outside, "!IOOBE");
    for (int i = 0; i < size; i++) {
      List<Integer> then = new ArrayList<>(elements);
      int old = then.remove(i);
      change("taking from", kind, "take 9 " + i, old, then);
    }
  }

  private static void remove(int kind) {
    List<Integer> elements = Kinds.elements(kind);
    if (!Kinds.TAKABLE.contains(kind)) {
      refuse("removing from", kind, "remove 9 77, remove 9 " + elements.get(0), "!UOE");
      return;
    }
    refuse("removing from", kind, "remove 9 77, remove 9 0, remove 9 MAX", "!NSEE");
    for (int v : elements) {
      List<Integer> then = new ArrayList<>(elements);
      int first = then.indexOf(v);
      then.remove(first);
      change("removing from", kind, "remove 9 " + v, first, then);
    }
  }

  private static void lookAtEmpty(int kind) {
    String makers =
        Kinds.ROWS.contains(kind)
            ? "reversed 8 9 = answers\nsize 8 = 0\npart 8 9 0 0 = answers\nsize 8 = 0\n"
                + "shifted 8 9 1 = answers\nsize 8 = 0\n"
                + "part 8 9 0 1, part 8 9 1 1, part 8 9 -1 0 = !IOOBE\n"
            : "reversed 8 9, part 8 9 0 0, shifted 8 9 1 = !IAE\n";
    SCRIPTS.run(
        "looking at KIND " + kind + ", empty",
        Kinds.madeEmpty(kind)
            + ("about 9 0 = " + kind + "\n")
            + """
            size 9, about 9 4 = 0
            at 9 0, at 9 -1, at 9 MAX = !IOOBE
            find 9 0, find 9 1, mean 9 = !NSEE
            make 8 0 = answers
            alike 9 9, alike 8 9, alike 9 8 = true
            add 8 1 = 1
            alike 8 9, alike 9 8 = false
            copy 8 1 9 = answers
            copy 7 2 9 = answers
            size 8, size 7 = 0
            """
            + makers);
  }

  private static void changeEmpty(int kind) {
    boolean writable = Kinds.WRITABLE.contains(kind);
    boolean takable = Kinds.TAKABLE.contains(kind);
    SCRIPTS.run(
        "changing KIND " + kind + ", empty",
        Kinds.madeEmpty(kind)
            + ("take 9 0, take 9 -1 = " + (takable ? "!IOOBE" : "!UOE") + "\n")
            + ("remove 9 0, remove 9 1 = " + (takable ? "!NSEE" : "!UOE") + "\n")
            + ("put 9 0 5, put 9 -1 5 = " + (writable ? "!IOOBE" : "!UOE") + "\n")
            + ("insert 9 1 5, insert 9 -1 5 = " + (writable ? "!IOOBE" : "!UOE") + "\n")
            + "size 9 = 0\n"
            + (writable ? "insert 9 0 5 = 1\ntake 9 0 = 5\nadd 9 6 = 1\nshow 9 = 6\n" : "")
            + (writable ? "remove 9 6, size 9 = 0\n" : "insert 9 0 5, add 9 6 = !UOE\n"));
  }

  private static void refuse(String title, int kind, String calls, String thrown) {
    String after = "show 9 = " + Kinds.text(Kinds.elements(kind)) + "\n";
    SCRIPTS.run(title + " KIND " + kind, Kinds.made(kind) + calls + " = " + thrown + "\n" + after);
  }

  private static void change(String title, int kind, String call, int due, List<Integer> then) {
    String after = "show 9 = " + Kinds.text(then) + "\nabout 9 4 = 0\n";
    SCRIPTS.run(title + " KIND " + kind, Kinds.made(kind) + call + " = " + due + "\n" + after);
  }
}
