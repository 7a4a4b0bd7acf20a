import java.lang.reflect.InvocationTargetException;
import java.lang.reflect.Method;
import java.lang.reflect.Modifier;
import java.util.HashMap;
import java.util.Map;

/** A call of the face that can be made of one object after another. */
record Call(String name, int... args) {
  /** An object is used for so many calls; what it answers after these is free. */
  static final int MOST = 512;

  private static final Map<String, Method> FACE = face();

  private static Map<String, Method> face() {
    Map<String, Method> face = new HashMap<>();
    for (Method m : LoanPence.class.getDeclaredMethods()) {
      if (Modifier.isPublic(m.getModifiers())) {
        face.put(m.getName(), m);
      }
    }
    return face;
  }

  /** From a text as it stands in a program: name(1, 2). */
  static Call of(String text) {
    int open = text.indexOf('(');
    String between = text.substring(open + 1, text.length() - 1).trim();
    String[] texts = between.isEmpty() ? new String[0] : between.split(", *");
    int[] args = new int[texts.length];
    for (int i = 0; i < args.length; i++) {
      args[i] = switch (texts[i]) {
        case "MAX" -> Integer.MAX_VALUE;
        case "MIN" -> Integer.MIN_VALUE;
        default -> Integer.decode(texts[i]);
      };
    }
    return new Call(text.substring(0, open), args);
  }

  long ask(LoanPence x) {
    Object[] boxed = new Object[args.length];
    for (int i = 0; i < args.length; i++) {
      boxed[i] = args[i];
    }
    try {
      return ((Number) FACE.get(name).invoke(x, boxed)).longValue();
    } catch (InvocationTargetException | IllegalAccessException e) {
      throw new IllegalStateException(text() + " threw", e);
    }
  }

  String text() {
    StringBuilder text = new StringBuilder(name).append('(');
    for (int i = 0; i < args.length; i++) {
      text.append(i == 0 ? "" : ", ").append(args[i]);
    }
    return text.append(')').toString();
  }
}
