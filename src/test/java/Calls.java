/** Makes calls by name, and tells their answers as texts; "throws.Name" for one that throws. */
final class Calls {
  private Calls() {}

  static String answer(LiveCollections x, String name, int... a) {
    try {
      return call(x, name, a);
    } catch (RuntimeException e) {
      return "throws." + e.getClass().getSimpleName();
    }
  }

  /** How many calls of the face there were behind an answer. */
  static int count(String name, String answer) {
    boolean many = name.equals("show") && !answer.isEmpty() && !answer.startsWith("throws.");
    return many ? 1 + answer.split(" ").length : 1;
  }

  private static String call(LiveCollections x, String name, int[] a) {
    return switch (name) {
      case "make" -> "" + x.make(a[0], a[1]);
      case "copy" -> "" + x.copy(a[0], a[1], a[2]);
      case "reversed" -> "" + x.reversed(a[0], a[1]);
      case "part" -> "" + x.part(a[0], a[1], a[2], a[3]);
      case "shifted" -> "" + x.shifted(a[0], a[1], a[2]);
      case "ofMap" -> "" + x.ofMap(a[0], a[1], a[2]);
      case "combine" -> "" + x.combine(a[0], a[1], a[2], a[3]);
      case "hold" -> "" + x.hold(a[0], a[1]);
      case "size" -> "" + x.size(a[0]);
      case "at" -> "" + x.at(a[0], a[1]);
      case "find" -> "" + x.find(a[0], a[1]);
      case "add" -> "" + x.add(a[0], a[1]);
      case "insert" -> "" + x.insert(a[0], a[1], a[2]);
      case "put" -> "" + x.put(a[0], a[1], a[2]);
      case "take" -> "" + x.take(a[0], a[1]);
      case "remove" -> "" + x.remove(a[0], a[1]);
      case "mean" -> "" + x.mean(a[0]);
      case "alike" -> "" + x.alike(a[0], a[1]);
      case "about" -> "" + x.about(a[0], a[1]);
      case "show" -> show(x, a[0]);
      default -> throw new AssertionError("no call " + name);
    };
  }

  /** No call of the face: all ELEMENTS of a NODE, with a blank between them. */
  private static String show(LiveCollections x, int node) {
    StringBuilder text = new StringBuilder();
    int size = x.size(node);
    for (int i = 0; i < size; i++) {
      text.append(i == 0 ? "" : " ").append(x.at(node, i));
    }
    return text.toString();
  }
}
