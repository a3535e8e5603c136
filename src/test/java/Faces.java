import java.lang.reflect.InvocationTargetException;
import java.lang.reflect.Method;
import java.lang.reflect.Proxy;

/** Puts the Face ahead of any object that has the document's calls. */
final class Faces {
  /** Behind its 512th call nothing is promised of an object, so no test may ask it more. */
  static final int MOST_CALLS = 512;

  private Faces() {}

  static Face of(Object target) {
    int[] calls = {0};
    return (Face) Proxy.newProxyInstance(Face.class.getClassLoader(), new Class<?>[] {Face.class}, (proxy, call, arguments) -> {
      if (++calls[0] > MOST_CALLS) throw new IllegalStateException("this test makes more than " + MOST_CALLS + " calls of one object");
      Method own = target.getClass().getMethod(call.getName(), call.getParameterTypes());
      own.setAccessible(true);
      try {
        return own.invoke(target, arguments);
      } catch (InvocationTargetException e) {
        throw new IllegalStateException(call.getName() + " threw " + e.getCause(), e.getCause());
      }
    });
  }
}
