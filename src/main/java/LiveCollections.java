import java.util.NoSuchElementException;

/**
 * Lists and multimaps of ints with live views on them and on one another, frozen copies, and set
 * views of two. The words in capitals are those of the document's Terms.
 */
public final class LiveCollections {
  private static final int LIST = 0;
  private static final int FROZEN = 1;
  private static final int SORTED = 2;
  private static final int REVERSED = 3;
  private static final int PART = 4;
  private static final int SHIFTED = 5;
  private static final int MULTIMAP = 6;
  private static final int VALUES = 7;
  private static final int KEYS = 8;
  private static final int UNION = 9;
  private static final int INTERSECTION = 10;
  private static final int DIFFERENCE = 11;

  private static final int HANDLE_COUNT = 10;
  private static final int KEY_COUNT = 8;

  private static final int MOST_NODES = 40;
  private static final int MOST_LEAVES = 3;
  private static final int MOST_HEIGHT = 6;
  private static final int MOST_IN_LIST = 16;
  private static final int MOST_IN_LEAF = 24;
  private static final int MOST_ELEMENTS = MOST_LEAVES * MOST_IN_LEAF;

  private final Node[] held;
  private int made;

  // Every call writes the ELEMENTS that it looks at into these, so that looking makes no objects.
  private final int[] row;
  private final int[] otherRow;

  public LiveCollections() {
    held = new Node[HANDLE_COUNT];
    row = new int[MOST_ELEMENTS];
    otherRow = new int[MOST_ELEMENTS];
  }

  public int make(int to, int kind) throws IllegalArgumentException, IllegalStateException {
    needTold(isHandle(to));
    needTold(kind == LIST || kind == MULTIMAP);
    needRoomForNode(1, 1);
    Store store = kind == LIST ? new Store(MOST_IN_LIST, 1) : new Store(MOST_IN_LEAF, KEY_COUNT);
    return keep(to, new Node(kind, store, 0));
  }

  public int copy(int to, int kind, int node)
      throws IllegalArgumentException, IllegalStateException {
    needTold(isHandle(to));
    needTold(kind == FROZEN || kind == SORTED);
    Node from = nodeIn(node);
    needFresh(from);
    int count = fill(from, row);
    if (kind == SORTED) {
      count = sortOnce(row, count);
    }
    needRoom(count <= MOST_IN_LEAF);
    needRoomForNode(1, 1);
    Store store = new Store(MOST_IN_LEAF, 1);
    store.startWith(row, count);
    return keep(to, new Node(kind, store, 0));
  }

  public int reversed(int to, int node) throws IllegalArgumentException, IllegalStateException {
    needTold(isHandle(to));
    Node base = rowIn(node);
    needFresh(base);
    needRoomForNode(base.leaves, base.height + 1);
    return keep(to, new Node(REVERSED, base, null));
  }

  public int part(int to, int node, int start, int end)
      throws IllegalArgumentException, IllegalStateException, IndexOutOfBoundsException {
    needTold(isHandle(to));
    Node base = rowIn(node);
    needFresh(base);
    needPlace(0 <= start && start <= end && end <= rowLength(base));
    needRoomForNode(base.leaves, base.height + 1);
    Node part = new Node(PART, base, null);
    part.start = start;
    part.length = end - start;
    part.noted = changesOf(base);
    return keep(to, part);
  }

  public int shifted(int to, int node, int by)
      throws IllegalArgumentException, IllegalStateException {
    needTold(isHandle(to));
    Node base = rowIn(node);
    needFresh(base);
    needRoomForNode(base.leaves, base.height + 1);
    Node shifted = new Node(SHIFTED, base, null);
    shifted.by = by;
    return keep(to, shifted);
  }

  public int ofMap(int to, int node, int key)
      throws IllegalArgumentException, IllegalStateException {
    needTold(isHandle(to));
    needTold(0 <= key && key <= KEY_COUNT);
    Node map = nodeIn(node);
    needTold(map.kind == MULTIMAP);
    needRoomForNode(1, 1);
    if (key == KEY_COUNT) {
      return keep(to, new Node(KEYS, map.store, 0));
    }
    return keep(to, new Node(VALUES, map.store, key));
  }

  public int combine(int to, int kind, int one, int other)
      throws IllegalArgumentException, IllegalStateException {
    needTold(isHandle(to));
    needTold(UNION <= kind && kind <= DIFFERENCE);
    Node a = nodeIn(one);
    Node b = nodeIn(other);
    needFresh(a);
    needFresh(b);
    needRoomForNode(a.leaves + b.leaves, Math.max(a.height, b.height) + 1);
    return keep(to, new Node(kind, a, b));
  }

  public int hold(int to, int from) throws IllegalArgumentException {
    needTold(isHandle(to));
    needTold(from == -1 || isHandle(from));
    held[to] = from == -1 ? null : held[from];
    return held[to] == null ? -1 : held[to].kind;
  }

  public int size(int node) throws IllegalArgumentException, IllegalStateException {
    Node of = nodeIn(node);
    needFresh(of);
    return fill(of, row);
  }

  public int at(int node, int i)
      throws IllegalArgumentException, IllegalStateException, IndexOutOfBoundsException {
    Node of = nodeIn(node);
    needFresh(of);
    int count = fill(of, row);
    needPlace(0 <= i && i < count);
    return row[i];
  }

  public int find(int node, int v)
      throws IllegalArgumentException, IllegalStateException, NoSuchElementException {
    Node of = nodeIn(node);
    needFresh(of);
    int place = placeOf(row, fill(of, row), v);
    needThere(place >= 0);
    return place;
  }

  public int add(int node, int v)
      throws IllegalArgumentException, UnsupportedOperationException, IllegalStateException {
    Node into = nodeIn(node);
    needSupported(canBeWritten(into));
    needFresh(into);
    needRoomForInt(into);
    putIn(into, rowLength(into), v);
    return rowLength(into);
  }

  public int insert(int node, int i, int v)
      throws IllegalArgumentException, UnsupportedOperationException, IllegalStateException,
          IndexOutOfBoundsException {
    Node into = nodeIn(node);
    needSupported(canBeWritten(into));
    needFresh(into);
    needPlace(0 <= i && i <= rowLength(into));
    needRoomForInt(into);
    putIn(into, i, v);
    return rowLength(into);
  }

  public int put(int node, int i, int v)
      throws IllegalArgumentException, UnsupportedOperationException, IllegalStateException,
          IndexOutOfBoundsException {
    Node of = nodeIn(node);
    needSupported(canBeWritten(of));
    needFresh(of);
    needPlace(0 <= i && i < rowLength(of));
    return replace(of, i, v);
  }

  public int take(int node, int i)
      throws IllegalArgumentException, UnsupportedOperationException, IllegalStateException,
          IndexOutOfBoundsException {
    Node from = nodeIn(node);
    needSupported(canBeTakenFrom(from));
    needFresh(from);
    int count = fill(from, row);
    needPlace(0 <= i && i < count);
    takeOut(from, i);
    return row[i];
  }

  public int remove(int node, int v)
      throws IllegalArgumentException, UnsupportedOperationException, IllegalStateException,
          NoSuchElementException {
    Node from = nodeIn(node);
    needSupported(canBeTakenFrom(from));
    needFresh(from);
    int place = placeOf(row, fill(from, row), v);
    needThere(place >= 0);
    takeOut(from, place);
    return place;
  }

  public double mean(int node)
      throws IllegalArgumentException, IllegalStateException, NoSuchElementException {
    Node of = nodeIn(node);
    needFresh(of);
    int count = fill(of, row);
    needThere(count > 0);
    long sum = 0;
    for (int i = 0; i < count; i++) {
      sum += row[i];
    }
    return (double) sum / count;
  }

  public boolean alike(int one, int other) throws IllegalArgumentException, IllegalStateException {
    Node a = nodeIn(one);
    Node b = nodeIn(other);
    needFresh(a);
    needFresh(b);
    int count = fill(a, row);
    if (count != fill(b, otherRow)) {
      return false;
    }
    for (int i = 0; i < count; i++) {
      if (row[i] != otherRow[i]) {
        return false;
      }
    }
    return true;
  }

  public int about(int node, int what) throws IllegalArgumentException {
    Node of = nodeIn(node);
    needTold(0 <= what && what <= 4);
    needTold(what != 3 || isRow(of));
    switch (what) {
      case 0:
        return of.kind;
      case 1:
        return of.leaves;
      case 2:
        return of.height;
      case 3:
        return changesOf(of);
      default:
        return isStale(of) ? 1 : 0;
    }
  }

  private int keep(int to, Node node) {
    held[to] = node;
    made++;
    return made;
  }

  private Node nodeIn(int handle) {
    needTold(isHandle(handle));
    Node node = held[handle];
    needTold(node != null);
    return node;
  }

  private Node rowIn(int handle) {
    Node node = nodeIn(handle);
    needTold(isRow(node));
    return node;
  }

  private static boolean isHandle(int handle) {
    return 0 <= handle && handle < HANDLE_COUNT;
  }

  private static boolean isRow(Node node) {
    return node.kind <= SHIFTED || node.kind == VALUES;
  }

  // Each call of the face has its needs in the document's order: the first not met is thrown.

  private static void needTold(boolean told) {
    if (!told) {
      throw new IllegalArgumentException();
    }
  }

  private static void needSupported(boolean supported) {
    if (!supported) {
      throw new UnsupportedOperationException();
    }
  }

  private static void needFresh(Node node) {
    if (isStale(node)) {
      throw new IllegalStateException();
    }
  }

  private static void needPlace(boolean there) {
    if (!there) {
      throw new IndexOutOfBoundsException();
    }
  }

  private static void needThere(boolean there) {
    if (!there) {
      throw new NoSuchElementException();
    }
  }

  private static void needRoom(boolean room) {
    if (!room) {
      throw new IllegalStateException();
    }
  }

  private void needRoomForNode(int leaves, int height) {
    needRoom(made < MOST_NODES && leaves <= MOST_LEAVES && height <= MOST_HEIGHT);
  }

  private static void needRoomForInt(Node into) {
    needRoom(!leafOf(into).store.isFull());
  }

  // The methods that go down from a NODE to those below it call themselves no more than
  // MOST_HEIGHT times, since needRoomForNode refuses a higher NODE.

  private static boolean isStale(Node node) {
    if (node.base == null) {
      return false;
    }
    if (node.kind == PART && node.noted != changesOf(node.base)) {
      return true;
    }
    return isStale(node.base) || (node.other != null && isStale(node.other));
  }

  private static Node leafOf(Node ofRow) {
    Node leaf = ofRow;
    while (leaf.base != null) {
      leaf = leaf.base;
    }
    return leaf;
  }

  private static int changesOf(Node ofRow) {
    Node leaf = leafOf(ofRow);
    return leaf.store.changes[leaf.key];
  }

  private static int rowLength(Node ofRow) {
    Node below = ofRow;
    while (below.kind != PART && below.base != null) {
      below = below.base;
    }
    return below.kind == PART ? below.length : below.store.countOf(below.key);
  }

  /** Whether TO INSERT and TO PUT are said for the NODE and for all below it. */
  private static boolean canBeWritten(Node node) {
    for (Node below = node; below != null; below = below.base) {
      boolean leaf = below.kind == LIST || below.kind == VALUES;
      if (!leaf && below.kind != REVERSED && below.kind != PART) {
        return false;
      }
    }
    return true;
  }

  /** Whether TO TAKE is said for the NODE and for all below it. */
  private static boolean canBeTakenFrom(Node node) {
    for (Node below = node; below != null; below = below.base) {
      if (below.kind == FROZEN || below.kind == SORTED || below.kind >= UNION) {
        return false;
      }
    }
    return true;
  }

  private static void putIn(Node node, int place, int v) {
    switch (node.kind) {
      case REVERSED:
        putIn(node.base, rowLength(node.base) - place, v);
        break;
      case PART:
        putIn(node.base, node.start + place, v);
        node.length++;
        node.noted = changesOf(node.base);
        break;
      default:
        node.store.putIn(node.key, place, v);
        break;
    }
  }

  private static int replace(Node node, int place, int v) {
    switch (node.kind) {
      case REVERSED:
        return replace(node.base, rowLength(node.base) - place - 1, v);
      case PART:
        return replace(node.base, node.start + place, v);
      default:
        return node.store.replace(node.key, place, v);
    }
  }

  private static void takeOut(Node node, int place) {
    switch (node.kind) {
      case REVERSED:
        takeOut(node.base, rowLength(node.base) - place - 1);
        break;
      case PART:
        takeOut(node.base, node.start + place);
        node.length--;
        node.noted = changesOf(node.base);
        break;
      case SHIFTED:
        takeOut(node.base, place);
        break;
      case MULTIMAP:
        node.store.takeOut(place);
        break;
      case KEYS:
        node.store.takeOutKey(place);
        break;
      default:
        node.store.takeOut(node.store.firstOf(node.key) + place);
        break;
    }
  }

  /** Writes the ELEMENTS of a NODE that is not STALE into a row, and answers how many. */
  private static int fill(Node node, int[] into) {
    switch (node.kind) {
      case REVERSED:
        return turnRound(into, fill(node.base, into));
      case PART:
        fill(node.base, into);
        System.arraycopy(into, node.start, into, 0, node.length);
        return node.length;
      case SHIFTED:
        return raise(into, fill(node.base, into), node.by);
      case MULTIMAP:
        return node.store.fillAll(into);
      case KEYS:
        return node.store.fillKeys(into);
      case UNION:
      case INTERSECTION:
      case DIFFERENCE:
        return fillOfTwo(node, into);
      default:
        return node.store.fillOf(node.key, into);
    }
  }

  private static int fillOfTwo(Node node, int[] into) {
    int[] a = node.baseRow;
    int[] b = node.otherRow;
    int countA = fill(node.base, a);
    int countB = fill(node.other, b);
    int count = 0;
    for (int i = 0; i < countA; i++) {
      boolean inB = placeOf(b, countB, a[i]) >= 0;
      if (node.kind == UNION || inB == (node.kind == INTERSECTION)) {
        count = appendOnce(into, count, a[i]);
      }
    }
    if (node.kind == UNION) {
      for (int i = 0; i < countB; i++) {
        count = appendOnce(into, count, b[i]);
      }
    }
    return count;
  }

  private static int appendOnce(int[] into, int count, int v) {
    if (placeOf(into, count, v) >= 0) {
      return count;
    }
    into[count] = v;
    return count + 1;
  }

  private static int placeOf(int[] of, int count, int v) {
    for (int i = 0; i < count; i++) {
      if (of[i] == v) {
        return i;
      }
    }
    return -1;
  }

  private static int turnRound(int[] of, int count) {
    for (int i = 0; i < count / 2; i++) {
      int v = of[i];
      of[i] = of[count - 1 - i];
      of[count - 1 - i] = v;
    }
    return count;
  }

  private static int raise(int[] of, int count, int by) {
    for (int i = 0; i < count; i++) {
      of[i] += by;
    }
    return count;
  }

  /** Leaves each int once, in rising order, and answers how many are left. */
  private static int sortOnce(int[] of, int count) {
    int kept = 0;
    for (int i = 0; i < count; i++) {
      int v = of[i];
      int place = 0;
      while (place < kept && of[place] < v) {
        place++;
      }
      if (place == kept || of[place] != v) {
        System.arraycopy(of, place, of, place + 1, kept - place);
        of[place] = v;
        kept++;
      }
    }
    return kept;
  }

  /**
   * The ints of a MULTIMAP; those of a LIST, a FROZEN or a SORTED too, under the one key 0.
   *
   * <p>They stand in the order of the ELEMENTS, those of a key side by side. A key that comes to be
   * THERE is set behind the others, and one whose last int is taken out is gone from the order, so
   * the order of the keys need not be kept beside them.
   */
  private static final class Store {
    final int[] ints;
    final int[] keys;
    final int[] changes;
    int count;

    Store(int most, int keyCount) {
      ints = new int[most];
      keys = new int[most];
      changes = new int[keyCount];
    }

    /** The ints that a copy has from its making on: these are no CHANGES. */
    void startWith(int[] from, int many) {
      System.arraycopy(from, 0, ints, 0, many);
      count = many;
    }

    boolean isFull() {
      return count == ints.length;
    }

    /** Where the key's list begins, or would begin. */
    int firstOf(int key) {
      int place = 0;
      while (place < count && keys[place] != key) {
        place++;
      }
      return place;
    }

    int countOf(int key) {
      int many = 0;
      for (int i = 0; i < count; i++) {
        if (keys[i] == key) {
          many++;
        }
      }
      return many;
    }

    void putIn(int key, int place, int v) {
      int where = firstOf(key) + place;
      System.arraycopy(ints, where, ints, where + 1, count - where);
      System.arraycopy(keys, where, keys, where + 1, count - where);
      ints[where] = v;
      keys[where] = key;
      count++;
      changes[key]++;
    }

    int replace(int key, int place, int v) {
      int where = firstOf(key) + place;
      int old = ints[where];
      ints[where] = v;
      return old;
    }

    void takeOut(int where) {
      changes[keys[where]]++;
      count--;
      System.arraycopy(ints, where + 1, ints, where, count - where);
      System.arraycopy(keys, where + 1, keys, where, count - where);
    }

    /** Takes out all ints of the key at this place among the keys that are THERE. */
    void takeOutKey(int place) {
      int where = 0;
      for (int i = 0; i < place; i++) {
        where += countOf(keys[where]);
      }
      int many = countOf(keys[where]);
      for (int i = 0; i < many; i++) {
        takeOut(where);
      }
    }

    int fillAll(int[] into) {
      System.arraycopy(ints, 0, into, 0, count);
      return count;
    }

    int fillOf(int key, int[] into) {
      int many = countOf(key);
      System.arraycopy(ints, firstOf(key), into, 0, many);
      return many;
    }

    int fillKeys(int[] into) {
      int many = 0;
      for (int i = 0; i < count; i++) {
        if (i == 0 || keys[i] != keys[i - 1]) {
          into[many] = keys[i];
          many++;
        }
      }
      return many;
    }
  }

  /** One NODE; what its KIND has no use for is 0 or null. */
  private static final class Node {
    final int kind;
    final int leaves;
    final int height;

    // KINDS 0, 1, 2, 6, 7 and 8; VALUES and KEYS have that of their MULTIMAP.
    final Store store;
    final int key;

    // The BASE; of two, these are a and b.
    final Node base;
    final Node other;

    // Of two: where the ELEMENTS of a and b are written to be compared.
    final int[] baseRow;
    final int[] otherRow;

    int start;
    int length;
    int noted;
    int by;

    Node(int kind, Store store, int key) {
      this.kind = kind;
      this.store = store;
      this.key = key;
      leaves = 1;
      height = 1;
      base = null;
      other = null;
      baseRow = null;
      otherRow = null;
    }

    Node(int kind, Node base, Node other) {
      this.kind = kind;
      this.base = base;
      this.other = other;
      leaves = other == null ? base.leaves : base.leaves + other.leaves;
      height = 1 + (other == null ? base.height : Math.max(base.height, other.height));
      baseRow = other == null ? null : new int[base.leaves * MOST_IN_LEAF];
      otherRow = other == null ? null : new int[other.leaves * MOST_IN_LEAF];
      store = null;
      key = 0;
    }
  }
}
