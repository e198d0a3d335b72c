/**
 * Runs scripts of calls, each on a new object. A line is a call and its due answer, such as
 * "at 0 3 = 7" or "size 2 = !ISE"; "answers" stands for any answer, but not for a throw. Calls with
 * the same answer may share a line, with commas between them. What stands behind # is a remark.
 */
final class Scripts {
  // What an object answers after so many calls is free: nothing may be due then.
  private static final int MOST_CALLS = 512;

  private int calls;
  private int wrong;
  private int ofThisObject;

  void run(String title, String script) {
    LiveCollections x = new LiveCollections();
    ofThisObject = 0;
    for (String line : script.split("\n")) {
      String text = line.replaceAll("#.*", "").trim();
      if (text.isEmpty()) {
        continue;
      }
      int equals = text.indexOf('=');
      if (equals < 0) {
        throw new AssertionError(title + ": no '=' in: " + text);
      }
      String due = spelledOut(text.substring(equals + 1).trim());
      for (String call : text.substring(0, equals).split(",")) {
        check(title, x, call.trim(), due);
      }
    }
    if (ofThisObject > MOST_CALLS) {
      throw new AssertionError(title + ": more than " + MOST_CALLS + " calls of one object");
    }
  }

  /** Prints the outcome, and ends the program with exit code 1 if an answer was wrong. */
  void end(String name) {
    System.out.println(name + ": " + calls + " calls, " + wrong + " wrong");
    System.exit(wrong == 0 && calls > 0 ? 0 : 1);
  }

  private void check(String title, LiveCollections x, String call, String due) {
    String[] words = call.split(" +");
    int[] arguments = new int[words.length - 1];
    for (int i = 0; i < arguments.length; i++) {
      arguments[i] = number(words[i + 1]);
    }
    String got = Calls.answer(x, words[0], arguments);
    calls++;
    ofThisObject += Calls.count(words[0], got);
    boolean right = due.equals("answers") ? !got.startsWith("throws.") : got.equals(due);
    if (!right) {
      wrong++;
      System.out.println(title + ": " + call + " answered " + got + ", due is " + due);
    }
  }

  private static int number(String word) {
    return switch (word) {
      case "MIN" -> Integer.MIN_VALUE;
      case "MAX" -> Integer.MAX_VALUE;
      default -> Integer.parseInt(word);
    };
  }

  private static String spelledOut(String due) {
    return switch (due) {
      case "!IAE" -> "throws.IllegalArgumentException";
      case "!UOE" -> "throws.UnsupportedOperationException";
      case "!ISE" -> "throws.IllegalStateException";
      case "!IOOBE" -> "throws.IndexOutOfBoundsException";
      case "!NSEE" -> "throws.NoSuchElementException";
      case "MIN" -> "" + Integer.MIN_VALUE;
      case "MAX" -> "" + Integer.MAX_VALUE;
      default -> due;
    };
  }
}
