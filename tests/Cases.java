import java.lang.reflect.InvocationTargetException;
import java.lang.reflect.Method;
import java.util.Arrays;
import java.util.Comparator;

/** Runs every case of a test, each alone: its static methods whose names begin with "edge". */
final class Cases {
  private Cases() { }

  static void run(Class<?> test) {
    Method[] methods = test.getDeclaredMethods();
    Arrays.sort(methods, Comparator.comparing(Method::getName));
    int cases = 0;
    int broken = 0;
    for (Method method : methods) {
      if (!method.getName().startsWith("edge")) continue;
      cases++;
      int before = Due.wrong();
      call(method);
      if (Due.wrong() > before) {
        broken++;
        System.out.println("broken: " + test.getSimpleName() + "." + method.getName());
      }
    }
    System.out.println(cases + " cases, " + broken + " broken");
    Due.is("there are cases in " + test.getSimpleName(), cases > 0, true);
    Due.end();
  }

  private static void call(Method method) {
    try {
      method.setAccessible(true);
      method.invoke(null);
    } catch (InvocationTargetException e) {
      Due.is(method.getName() + " threw " + e.getCause(), 1, 0);
    } catch (IllegalAccessException e) {
      Due.is(method.getName() + " can't be called", 1, 0);
    }
  }
}
