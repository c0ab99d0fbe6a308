import java.lang.reflect.InvocationTargetException;
import java.lang.reflect.Method;
import java.util.Arrays;
import java.util.Set;
import java.util.stream.Collectors;

/** A call of the class by its name, so that a run of calls can be made again on another object. */
record Call(String name, int... with) {
  private static final Set<String> QUESTIONS = Set.of("info", "chamber", "waits", "next", "ledger", "total", "step",
      "ahead", "better", "needless", "get", "count", "digest");

  boolean onlyAsks() {
    return QUESTIONS.contains(name);
  }

  long on(ThriftLock x) {
    Object[] given = Arrays.stream(with).boxed().toArray();
    try {
      return ((Number) method().invoke(x, given)).longValue();
    } catch (InvocationTargetException e) {
      throw new IllegalStateException(this + " threw", e.getCause());
    } catch (IllegalAccessException e) {
      throw new IllegalStateException(this + " is out of reach", e);
    }
  }

  private Method method() {
    for (Method m : ThriftLock.class.getMethods()) {
      if (m.getName().equals(name) && m.getParameterCount() == with.length) {
        return m;
      }
    }
    throw new IllegalStateException("no call " + this);
  }

  @Override
  public String toString() {
    return name + Arrays.stream(with).mapToObj(Integer::toString).collect(Collectors.joining(", ", "(", ")"));
  }
}
