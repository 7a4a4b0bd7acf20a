import java.lang.reflect.Constructor;
import java.lang.reflect.Field;
import java.lang.reflect.Method;
import java.lang.reflect.Modifier;
import java.util.Arrays;
import java.util.Set;
import java.util.TreeSet;

/** The public face: the document's constants, constructor and methods, and nothing else. */
public final class FaceTest {
  private static final String FACE =
      "library(int,int):int draw(int):int all(int,int):int lent(int,int,int):int put(int,int,int,int):int "
      + "known(int,int,int):int look(int,int):int year(int,int):long edition(int,int,int):int "
      + "person(int,int,int):int died(int,int):int heir(int,int,int):int share(int,int,int):int "
      + "editionOf(int,int):int personOf(int,int):int shareOf(int,int):int same(int,int,int):int "
      + "join(int,int,int):int feed(int,int):int wipe():int rule(int,int):int says(int,int,int):int "
      + "why(int,int,int):int fund(int):int close():int estimate(int,int,int):int book(int,int):long "
      + "points(int,int):long paid(int,int,int):long gain(int,int,int):long bestDraw(int):int judge():int "
      + "moved(int,int):int movedMany(int):int span(int,int,int):long count(int):int image():int back():int "
      + "lay(int):int set(int,int):int tear():int row(int):int copy(int,int,int):int status(int):int";

  public static void main(String[] args) {
    Due due = new Due("FaceTest");
    due.is("NONE", LoanPence.NONE, -1);
    due.is("MISSING", LoanPence.MISSING, -2);
    due.is("BEYOND", LoanPence.BEYOND, -3);
    due.is("BELOW", LoanPence.BELOW, -4);
    due.is("KIND", LoanPence.KIND, -5);
    due.is("COPY", LoanPence.COPY, -6);
    due.is("NO", LoanPence.NO, -7);
    due.is("FULL", LoanPence.FULL, -8);

    Class<?> face = LoanPence.class;
    due.holds("the class is public and final",
        Modifier.isPublic(face.getModifiers()) && Modifier.isFinal(face.getModifiers()));
    Constructor<?>[] made = face.getDeclaredConstructors();
    due.holds("one constructor, public, without arguments", made.length == 1
        && Modifier.isPublic(made[0].getModifiers()) && made[0].getParameterCount() == 0);

    Set<String> wanted = new TreeSet<>(Arrays.asList(FACE.split(" ")));
    Set<String> names = new TreeSet<>();
    Set<String> there = new TreeSet<>();
    for (Method m : face.getDeclaredMethods()) {
      if (Modifier.isPublic(m.getModifiers())) {
        StringBuilder text = new StringBuilder(m.getName()).append('(');
        for (Class<?> type : m.getParameterTypes()) {
          text.append(text.charAt(text.length() - 1) == '(' ? "" : ",").append(type.getName());
        }
        there.add(text.append("):").append(m.getReturnType().getName()).toString());
        names.add(m.getName());
        due.holds(m.getName() + " is no static method", !Modifier.isStatic(m.getModifiers()));
      }
    }
    due.holds("the public methods are " + there, there.equals(wanted));
    lookAtHidden(due, face, names);
    int constants = 0;
    for (Field f : face.getDeclaredFields()) {
      int is = f.getModifiers();
      constants += Modifier.isPublic(is) ? 1 : 0;
      due.holds(f.getName() + " is public or private", Modifier.isPublic(is) || Modifier.isPrivate(is));
      due.holds(f.getName() + " is final if it is static", !Modifier.isStatic(is) || Modifier.isFinal(is));
    }
    due.is("public constants", constants, 8);
    due.end();
  }

  private static void lookAtHidden(Due due, Class<?> face, Set<String> names) {
    for (Method m : face.getDeclaredMethods()) {
      if (!Modifier.isPublic(m.getModifiers()) && !m.isSynthetic()) {
        due.holds(m.getName() + " is private", Modifier.isPrivate(m.getModifiers()));
        due.holds(m.getName() + " bears no public name", !names.contains(m.getName()));
      }
      due.holds(m.getName() + " takes seven at most", m.getParameterCount() <= 7);
    }
    due.holds("twelve classes at most", face.getDeclaredClasses().length < 12);
    for (Class<?> inner : face.getDeclaredClasses()) {
      due.holds(inner.getName() + " is static", Modifier.isStatic(inner.getModifiers()));
      due.holds(inner.getName() + " isn't public", !Modifier.isPublic(inner.getModifiers()));
      int fields = 0;
      for (Field f : inner.getDeclaredFields()) {
        fields += Modifier.isStatic(f.getModifiers()) ? 0 : 1;
      }
      due.holds(inner.getName() + " has twenty fields at most", fields <= 20);
      for (Method m : inner.getDeclaredMethods()) {
        due.holds(m.getName() + " bears no public name", !names.contains(m.getName()));
        due.holds(m.getName() + " takes seven at most", m.getParameterCount() <= 7);
      }
    }
  }
}
