import java.lang.reflect.InvocationTargetException;
import java.lang.reflect.Method;
import java.lang.reflect.Modifier;
import java.util.ArrayList;
import java.util.Arrays;
import java.util.Comparator;
import java.util.List;
import java.util.Random;

/** Any call with any arguments in any state ends and throws nothing. */
public final class WildTest {
  private static final int[] EDGES = {Integer.MIN_VALUE, Integer.MIN_VALUE + 1, Integer.MAX_VALUE,
    Integer.MAX_VALUE - 1, -101, -100, -99, -9, -8, -7, -2, -1, 0, 1, 2, 3, 4, 5, 6, 11, 12, 13, 19, 20, 29, 30, 31,
    32, 33, 39, 40, 41, 59, 60, 61, 99, 100, 101, 119, 120, 121, 255, 400, 1129, 1130, 1200, 4095, 4096, 9999, 10000,
    99999, 100000, 9999999, 10000000, 0x77686f20, 0x6d6f7374, 0x20282828, 0x2d2d2d31};

  public static void main(String[] args) {
    Due due = new Due("WildTest");
    List<Method> calls = new ArrayList<>();
    for (Method m : LoanPence.class.getDeclaredMethods()) {
      if (Modifier.isPublic(m.getModifiers())) {
        calls.add(m);
      }
    }
    // Their order is not the same in each machine.
    calls.sort(Comparator.comparing(Method::getName));
    for (int seed = 0; seed < 2000; seed++) {
      due.holds("the wild run of seed " + seed, run(calls, new Random(seed)));
    }
    due.end();
  }

  private static boolean run(List<Method> calls, Random random) {
    LoanPence x = new LoanPence();
    int narrow = 1 + random.nextInt(EDGES.length);
    for (int i = 0; i < 512; i++) {
      Method m = calls.get(random.nextInt(calls.size()));
      Object[] args = new Object[m.getParameterCount()];
      for (int k = 0; k < args.length; k++) {
        int kind = random.nextInt(10);
        args[k] = kind == 0 ? random.nextInt() : kind < 5 ? EDGES[random.nextInt(narrow)] : random.nextInt(7);
      }
      try {
        m.invoke(x, args);
      } catch (InvocationTargetException | IllegalAccessException e) {
        System.out.println(m.getName() + Arrays.toString(args) + ": " + e.getCause());
        return false;
      }
    }
    return true;
  }
}
