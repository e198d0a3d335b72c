import com.sun.management.ThreadMXBean;
import java.lang.management.ManagementFactory;

/** All calls of one run live in one room: calls that make are counted, others make no object. */
public final class RoomTest {
  // Of the 512 calls of an object, those that are left when highest() has made it.
  private static final int LEFT = 512 - 113;

  // Of LANGUAGE.md's 600,000 objects each takes 16 bytes at least, of its 7,300,000 fields and
  // elements each 4: so within as many bytes there is room for both.
  private static final long ROOM = 16L * 600_000;

  // The first times, the machine's own classes may be loaded among the calls.
  private static final int TIMES = 20;

  private static final ThreadMXBean THREAD = (ThreadMXBean) ManagementFactory.getThreadMXBean();

  private static boolean ok = true;

  public static void main(String[] args) {
    long making = Long.MAX_VALUE;
    long looking = Long.MAX_VALUE;
    long changing = Long.MAX_VALUE;
    long throwing = Long.MAX_VALUE;
    for (int time = 0; time < TIMES; time++) {
      making = Math.min(making, making());
      looking = Math.min(looking, looking());
      changing = Math.min(changing, changing());
      throwing = Math.min(throwing, throwing());
    }
    check("making 40 NODES", making, ROOM);
    check("calls that look", looking, 0);
    check("calls that change", changing, 0);
    check("calls that throw", throwing, ROOM);
    System.out.println("RoomTest: " + (ok ? "there is room" : "there is no room"));
    System.exit(ok ? 0 : 1);
  }

  private static long making() {
    long before = THREAD.getCurrentThreadAllocatedBytes();
    highest();
    return THREAD.getCurrentThreadAllocatedBytes() - before;
  }

  /** 40 NODES: MULTIMAPS 0 to 2 of 24 ints, their VALUES 3 to 5, 7 a UNION of them all; SHIFTED. */
  private static LiveCollections highest() {
    LiveCollections x = new LiveCollections();
    for (int map = 0; map < 3; map++) {
      x.make(map, 6);
      x.ofMap(3 + map, map, 7);
      for (int i = 0; i < 24; i++) {
        x.add(3 + map, 24 * map + i);
      }
    }
    x.combine(6, 9, 0, 1);
    for (int made = 7; made < 39; made++) {
      x.combine(7, 9, 6, 2);
    }
    x.shifted(8, 3, 1);
    return x;
  }

  private static long looking() {
    LiveCollections x = highest();
    long before = THREAD.getCurrentThreadAllocatedBytes();
    for (int call = 0; call + 8 <= LEFT; call += 8) {
      x.size(7);
      x.at(7, 71);
      x.find(8, 24);
      x.mean(7);
      x.alike(7, 6);
      x.about(7, 4);
      x.about(8, 3);
      x.hold(9, 7);
    }
    return THREAD.getCurrentThreadAllocatedBytes() - before;
  }

  private static long changing() {
    LiveCollections x = highest();
    long before = THREAD.getCurrentThreadAllocatedBytes();
    for (int call = 0; call + 7 <= LEFT; call += 7) {
      x.take(8, 0);
      x.insert(3, 0, call);
      x.put(4, 23, call);
      x.remove(5, 48);
      x.insert(5, 0, 48);
      x.take(2, 23);
      x.add(5, 71);
    }
    return THREAD.getCurrentThreadAllocatedBytes() - before;
  }

  private static long throwing() {
    LiveCollections x = highest();
    long before = THREAD.getCurrentThreadAllocatedBytes();
    for (int call = 0; call < LEFT; call++) {
      try {
        x.at(7, 72);
      } catch (IndexOutOfBoundsException e) {
        continue;
      }
      ok = false;
    }
    return THREAD.getCurrentThreadAllocatedBytes() - before;
  }

  private static void check(String what, long bytes, long most) {
    if (bytes > most) {
      ok = false;
      System.out.println(what + ": " + bytes + " bytes, at most are due " + most);
    }
  }
}
