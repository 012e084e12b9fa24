import java.lang.reflect.Field;

/**
 * Sets what no run of calls can bring so high: a block can be sliced below 10 twice, so that 7
 * BROTHERS never come near 99 knuckles, and 400 DAYS make at most 9640 of ODDNESS.
 */
final class Inside {
  private Inside() { }

  private static Object part(Object of, String name) {
    try {
      Field field = of.getClass().getDeclaredField(name);
      field.setAccessible(true);
      return field.get(of);
    } catch (ReflectiveOperationException e) {
      throw new IllegalStateException(e);
    }
  }

  static void setKnuckles(GraterOrder x, int b, int n) {
    ((int[]) part(part(x, "state"), "hurt"))[b] = n;
  }

  static void setOddness(GraterOrder x, int b, int n) {
    ((int[]) part(part(x, "state"), "odd"))[b] = n;
  }
}
