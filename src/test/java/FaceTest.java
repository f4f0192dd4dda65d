import java.lang.reflect.Constructor;
import java.lang.reflect.Field;
import java.lang.reflect.Method;
import java.lang.reflect.Modifier;
import java.util.Set;
import java.util.TreeSet;

/** The public face is the document's and no more: rule 1 of LANGUAGE.md. */
public final class FaceTest {
  private static int wrong = 0;

  private static void fault(String text) {
    wrong++;
    System.out.println(text);
  }

  private static final String[] FACE = {
      "int garden(int,int,int)", "int gang(int,int)", "int sends(int,int)", "int kiln(int,int)", "int read(int,int)",
      "int drying(int,int)", "int waits(int)", "int hours(int)", "int about(int,int)", "int tally(int,int)",
      "int in(int,int)", "int green(int)", "int pocket(int,int)", "int count(int)", "int price(int,int)",
      "int priced(int)", "int act(int,int)", "int duty(int)", "int bound()", "int most(int,int)", "long trace()"};

  public static void main(String[] args) {
    if (!Modifier.isFinal(HopYard.class.getModifiers()) || !Modifier.isPublic(HopYard.class.getModifiers())) fault("HopYard is not public and final");
    methods();
    fields();
    for (Constructor<?> c : HopYard.class.getDeclaredConstructors()) {
      if (!Modifier.isPublic(c.getModifiers()) || c.getParameterCount() != 0) fault("another constructor: " + c);
    }
    for (Class<?> c : HopYard.class.getDeclaredClasses()) {
      if (!Modifier.isStatic(c.getModifiers()) || Modifier.isPublic(c.getModifiers())) fault("a class inside that is public or not static: " + c);
    }
    System.out.println(wrong == 0 ? "the face is the document's" : wrong + " faults of the face");
    if (wrong != 0) System.exit(1);
  }

  private static void methods() {
    Set<String> due = new TreeSet<>(Set.of(FACE));
    Set<String> names = new TreeSet<>();
    for (String f : FACE) names.add(f.substring(f.indexOf(' ') + 1, f.indexOf('(')));
    for (Method m : HopYard.class.getDeclaredMethods()) {
      StringBuilder b = new StringBuilder();
      for (Class<?> p : m.getParameterTypes()) b.append(b.length() == 0 ? "" : ",").append(p.getName());
      String text = m.getReturnType().getName() + " " + m.getName() + "(" + b + ")";
      if (Modifier.isPublic(m.getModifiers())) {
        if (!due.remove(text)) fault("not of the face: " + text);
      } else if (!Modifier.isPrivate(m.getModifiers())) {
        fault("neither public nor private: " + text);
      } else if (names.contains(m.getName())) {
        fault("a private method bears a public one's name: " + text);
      }
    }
    for (String missing : due) fault("missing: " + missing);
  }

  private static void fields() {
    Set<String> due = new TreeSet<>(Set.of("BAD", "STATE", "FULL", "NONE"));
    for (Field f : HopYard.class.getDeclaredFields()) {
      int is = f.getModifiers();
      if (Modifier.isStatic(is) && !Modifier.isFinal(is)) fault("static and not final: " + f);
      if (Modifier.isPublic(is) ? !due.remove(f.getName()) || f.getType() != int.class : !Modifier.isPrivate(is)) fault("not of the face: " + f);
    }
    for (String missing : due) fault("missing: " + missing);
  }
}
