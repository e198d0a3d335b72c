import java.util.ArrayList;
import java.util.Collections;
import java.util.LinkedHashMap;
import java.util.LinkedHashSet;
import java.util.List;
import java.util.Map;
import java.util.NoSuchElementException;
import java.util.Set;
import java.util.TreeSet;

/** The document once more, with the Java library and a class for each KIND, slow and plain. */
final class Model {
  private static final Set<Integer> ROWS = Set.of(0, 1, 2, 3, 4, 5, 7);

  private final Seen[] held = new Seen[10];
  private int made;

  /** What a call is due to answer: "throws.Name" for one that is due to throw. */
  String answer(String name, int... a) {
    try {
      return call(name, a);
    } catch (RuntimeException e) {
      return "throws." + e.getClass().getSimpleName();
    }
  }

  /** The KIND of what a handle holds, -1 for nothing. */
  int kind(int handle) {
    return held[handle] == null ? -1 : held[handle].kind;
  }

  /** The ELEMENTS of what a handle holds, none if they may not be looked at. */
  List<Integer> elements(int handle) {
    boolean seen = handle >= 0 && handle <= 9 && held[handle] != null && !held[handle].stale();
    return seen ? held[handle].elements() : List.of();
  }

  private String call(String name, int[] a) {
    return switch (name) {
      case "make" -> make(a[0], a[1]);
      case "copy" -> copy(a[0], a[1], a[2]);
      case "reversed" -> view(a[0], new Reversed(row(a[1])));
      case "part" -> part(a[0], row(a[1]), a[2], a[3]);
      case "shifted" -> view(a[0], new Shifted(row(a[1]), a[2]));
      case "ofMap" -> ofMap(a[0], node(a[1]), a[2]);
      case "combine" -> combine(a[0], a[1], node(a[2]), node(a[3]));
      case "hold" -> hold(a[0], a[1]);
      case "size" -> "" + looked(a[0]).size();
      case "at" -> "" + looked(a[0]).get(place(a[1], looked(a[0]).size()));
      case "find" -> "" + placeOf(a[1], looked(a[0]));
      case "add" -> insert(node(a[0]), a[1]);
      case "insert" -> insert(node(a[0]), a[1], a[2]);
      case "put" -> put(node(a[0]), a[1], a[2]);
      case "take" -> take(node(a[0]), a[1]);
      case "remove" -> remove(node(a[0]), a[1]);
      case "mean" -> "" + mean(looked(a[0]));
      case "alike" -> "" + alike(node(a[0]), node(a[1]));
      case "about" -> "" + about(node(a[0]), a[1]);
      case "show" -> looked(a[0]).toString().replaceAll("[\\[\\],]", "");
      default -> throw new AssertionError("no call " + name);
    };
  }

  private static void argument(boolean ok) {
    if (!ok) {
      throw new IllegalArgumentException();
    }
  }

  private static void supported(boolean ok) {
    if (!ok) {
      throw new UnsupportedOperationException();
    }
  }

  private static void state(boolean ok) {
    if (!ok) {
      throw new IllegalStateException();
    }
  }

  private static int place(int i, int places) {
    if (i < 0 || i >= places) {
      throw new IndexOutOfBoundsException();
    }
    return i;
  }

  private static int placeOf(int v, List<Integer> list) {
    if (!list.contains(v)) {
      throw new NoSuchElementException();
    }
    return list.indexOf(v);
  }

  private Seen node(int handle) {
    argument(handle >= 0 && handle <= 9 && held[handle] != null);
    return held[handle];
  }

  private Seen row(int handle) {
    argument(ROWS.contains(node(handle).kind));
    return held[handle];
  }

  private List<Integer> looked(int handle) {
    state(!node(handle).stale());
    return held[handle].elements();
  }

  private String keep(int to, Seen seen) {
    state(made < 40 && seen.leaves() <= 3 && seen.height() <= 6);
    held[to] = seen;
    made++;
    return "" + made;
  }

  private String make(int to, int kind) {
    argument(to >= 0 && to <= 9 && (kind == 0 || kind == 6));
    return keep(to, kind == 0 ? new Ints(0, List.of()) : new MultiMap());
  }

  private String copy(int to, int kind, int node) {
    argument(to >= 0 && to <= 9 && (kind == 1 || kind == 2));
    List<Integer> list = looked(node);
    List<Integer> copied = kind == 2 ? new ArrayList<>(new TreeSet<>(list)) : list;
    state(copied.size() <= 24);
    return keep(to, new Ints(kind, copied));
  }

  private String view(int to, Seen view) {
    argument(to >= 0 && to <= 9);
    state(!view.stale());
    return keep(to, view);
  }

  private String part(int to, Seen base, int start, int end) {
    argument(to >= 0 && to <= 9);
    state(!base.stale());
    if (start < 0 || end < start || end > base.elements().size()) {
      throw new IndexOutOfBoundsException();
    }
    return keep(to, new Part(base, start, end - start));
  }

  private String ofMap(int to, Seen map, int key) {
    argument(to >= 0 && to <= 9 && key >= 0 && key <= 8 && map.kind == 6);
    MultiMap of = (MultiMap) map;
    return keep(to, key == 8 ? new Keys(of) : new Values(of, key));
  }

  private String combine(int to, int kind, Seen one, Seen other) {
    argument(kind >= 9 && kind <= 11);
    return view(to, new OfTwo(kind, one, other));
  }

  private String hold(int to, int from) {
    argument(to >= 0 && to <= 9 && from >= -1 && from <= 9);
    held[to] = from < 0 ? null : held[from];
    return "" + kind(to);
  }

  private static String insert(Seen into, int v) {
    supported(into.canInsert());
    state(!into.stale());
    return insert(into, into.elements().size(), v);
  }

  private static String insert(Seen into, int i, int v) {
    supported(into.canInsert());
    state(!into.stale());
    place(i, into.elements().size() + 1);
    state(!into.full());
    into.insert(i, v);
    return "" + into.elements().size();
  }

  private static String put(Seen of, int i, int v) {
    supported(of.canInsert());
    state(!of.stale());
    int old = of.elements().get(place(i, of.elements().size()));
    of.put(i, v);
    return "" + old;
  }

  private static String take(Seen from, int i) {
    supported(from.canTake());
    state(!from.stale());
    int old = from.elements().get(place(i, from.elements().size()));
    from.take(i);
    return "" + old;
  }

  private static String remove(Seen from, int v) {
    supported(from.canTake());
    state(!from.stale());
    int place = placeOf(v, from.elements());
    from.take(place);
    return "" + place;
  }

  private static double mean(List<Integer> list) {
    if (list.isEmpty()) {
      throw new NoSuchElementException();
    }
    return list.stream().mapToLong(v -> v).sum() / (double) list.size();
  }

  private static boolean alike(Seen one, Seen other) {
    state(!one.stale() && !other.stale());
    return one.elements().equals(other.elements());
  }

  private static int about(Seen seen, int what) {
    return switch (what) {
      case 0 -> seen.kind;
      case 1 -> seen.leaves();
      case 2 -> seen.height();
      case 3 -> seen.changes();
      case 4 -> seen.stale() ? 1 : 0;
      default -> throw new IllegalArgumentException();
    };
  }

  /** A NODE. What a KIND cannot do is as said here, for the others to say otherwise. */
  private abstract static class Seen {
    final int kind;
    final List<Seen> below;

    Seen(int kind, Seen... below) {
      this.kind = kind;
      this.below = List.of(below);
    }

    abstract List<Integer> elements();

    int leaves() {
      return below.isEmpty() ? 1 : below.stream().mapToInt(Seen::leaves).sum();
    }

    int height() {
      return 1 + below.stream().mapToInt(Seen::height).max().orElse(0);
    }

    boolean stale() {
      return below.stream().anyMatch(Seen::stale);
    }

    int changes() {
      throw new IllegalArgumentException();
    }

    boolean canInsert() {
      return false;
    }

    boolean canTake() {
      return false;
    }

    boolean full() {
      throw new AssertionError();
    }

    void insert(int i, int v) {
      throw new AssertionError();
    }

    void put(int i, int v) {
      throw new AssertionError();
    }

    void take(int i) {
      throw new AssertionError();
    }
  }

  /** LIST, FROZEN, SORTED. */
  private static final class Ints extends Seen {
    private final List<Integer> list;
    private int changes;

    Ints(int kind, List<Integer> start) {
      super(kind);
      list = new ArrayList<>(start);
    }

    @Override
    List<Integer> elements() {
      return new ArrayList<>(list);
    }

    @Override
    int changes() {
      return changes;
    }

    @Override
    boolean canInsert() {
      return kind == 0;
    }

    @Override
    boolean canTake() {
      return kind == 0;
    }

    @Override
    boolean full() {
      return list.size() == 16;
    }

    @Override
    void insert(int i, int v) {
      list.add(i, v);
      changes++;
    }

    @Override
    void put(int i, int v) {
      list.set(i, v);
    }

    @Override
    void take(int i) {
      list.remove(i);
      changes++;
    }
  }

  /** REVERSED, PART and SHIFTED: what they have in common. */
  private abstract static class OverBase extends Seen {
    final Seen base;

    OverBase(int kind, Seen base) {
      super(kind, base);
      this.base = base;
    }

    /** Where the BASE has what stands at this place here. */
    abstract int placeBelow(int i);

    @Override
    int changes() {
      return base.changes();
    }

    @Override
    boolean canInsert() {
      return base.canInsert();
    }

    @Override
    boolean canTake() {
      return base.canTake();
    }

    @Override
    boolean full() {
      return base.full();
    }

    @Override
    void put(int i, int v) {
      base.put(placeBelow(i), v);
    }

    @Override
    void take(int i) {
      base.take(placeBelow(i));
    }
  }

  private static final class Reversed extends OverBase {
    Reversed(Seen base) {
      super(3, base);
    }

    @Override
    List<Integer> elements() {
      List<Integer> list = base.elements();
      Collections.reverse(list);
      return list;
    }

    @Override
    int placeBelow(int i) {
      return base.elements().size() - i - 1;
    }

    @Override
    void insert(int i, int v) {
      base.insert(base.elements().size() - i, v);
    }
  }

  private static final class Part extends OverBase {
    private final int start;
    private int length;
    private int noted;

    Part(Seen base, int start, int length) {
      super(4, base);
      this.start = start;
      this.length = length;
      noted = base.changes();
    }

    @Override
    List<Integer> elements() {
      return new ArrayList<>(base.elements().subList(start, start + length));
    }

    @Override
    boolean stale() {
      return noted != base.changes() || super.stale();
    }

    @Override
    int placeBelow(int i) {
      return start + i;
    }

    @Override
    void insert(int i, int v) {
      base.insert(start + i, v);
      length++;
      noted = base.changes();
    }

    @Override
    void take(int i) {
      super.take(i);
      length--;
      noted = base.changes();
    }
  }

  private static final class Shifted extends OverBase {
    private final int by;

    Shifted(Seen base, int by) {
      super(5, base);
      this.by = by;
    }

    @Override
    List<Integer> elements() {
      List<Integer> list = base.elements();
      list.replaceAll(v -> v + by);
      return list;
    }

    @Override
    boolean canInsert() {
      return false;
    }

    @Override
    int placeBelow(int i) {
      return i;
    }
  }

  private static final class MultiMap extends Seen {
    final Map<Integer, List<Integer>> lists = new LinkedHashMap<>();
    final int[] changes = new int[8];

    MultiMap() {
      super(6);
    }

    List<Integer> list(int key) {
      return lists.getOrDefault(key, List.of());
    }

    void takeOf(int key, int i) {
      lists.get(key).remove(i);
      changes[key]++;
      if (lists.get(key).isEmpty()) {
        lists.remove(key);
      }
    }

    @Override
    List<Integer> elements() {
      List<Integer> all = new ArrayList<>();
      lists.values().forEach(all::addAll);
      return all;
    }

    @Override
    boolean canTake() {
      return true;
    }

    @Override
    void take(int i) {
      int left = i;
      for (int key : new ArrayList<>(lists.keySet())) {
        int size = list(key).size();
        if (left >= 0 && left < size) {
          takeOf(key, left);
        }
        left -= size;
      }
    }
  }

  private static final class Values extends Seen {
    private final MultiMap map;
    private final int key;

    Values(MultiMap map, int key) {
      super(7);
      this.map = map;
      this.key = key;
    }

    @Override
    List<Integer> elements() {
      return new ArrayList<>(map.list(key));
    }

    @Override
    int changes() {
      return map.changes[key];
    }

    @Override
    boolean canInsert() {
      return true;
    }

    @Override
    boolean canTake() {
      return true;
    }

    @Override
    boolean full() {
      return map.elements().size() == 24;
    }

    @Override
    void insert(int i, int v) {
      map.lists.computeIfAbsent(key, k -> new ArrayList<>()).add(i, v);
      map.changes[key]++;
    }

    @Override
    void put(int i, int v) {
      map.lists.get(key).set(i, v);
    }

    @Override
    void take(int i) {
      map.takeOf(key, i);
    }
  }

  private static final class Keys extends Seen {
    private final MultiMap map;

    Keys(MultiMap map) {
      super(8);
      this.map = map;
    }

    @Override
    List<Integer> elements() {
      return new ArrayList<>(map.lists.keySet());
    }

    @Override
    boolean canTake() {
      return true;
    }

    @Override
    void take(int i) {
      int key = elements().get(i);
      map.changes[key] += map.lists.remove(key).size();
    }
  }

  /** UNION, INTERSECTION, DIFFERENCE. */
  private static final class OfTwo extends Seen {
    OfTwo(int kind, Seen a, Seen b) {
      super(kind, a, b);
    }

    @Override
    List<Integer> elements() {
      Set<Integer> all = new LinkedHashSet<>(below.get(0).elements());
      List<Integer> b = below.get(1).elements();
      switch (kind) {
        case 9 -> all.addAll(b);
        case 10 -> all.retainAll(b);
        default -> b.forEach(all::remove);
      }
      return new ArrayList<>(all);
    }
  }
}
