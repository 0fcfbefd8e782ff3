import java.lang.reflect.Member;
import java.lang.reflect.Method;
import java.lang.reflect.Modifier;
import java.util.Arrays;
import java.util.TreeSet;

/** The public face of the document, and nothing more that could be seen from outside (LANGUAGE.md, rule 1). */
public final class FaceTest {
  private static final Check CHECK = new Check("FaceTest");
  private static final String[] METHODS = {
    "int letter(int)", "int blank()", "int fault()", "int court()", "int party(int, int)", "int as(int, int)",
    "int covers(int, int)", "int tile(int, int)", "int found(int, int, int)", "int tick()", "int step(int, int)",
    "int stand(int, int)", "int rise(int, int)", "int lay(int, int)", "int file(int, int)", "int settle()",
    "int game(int, int, int, int)", "int docket(int)", "int odds(int, int, int, int, int)",
    "int see(int, int, int, boolean)", "int forget()", "int terms(int, int, int)", "int image()", "int restore()",
    "int count(int)", "long digest()"};

  public static void main(String[] args) throws ReflectiveOperationException {
    Class<?> face = ShadowCourt.class;
    CHECK.same("modifiers of the class", face.getModifiers(), Modifier.PUBLIC | Modifier.FINAL);
    TreeSet<String> open = new TreeSet<>();
    TreeSet<String> hidden = new TreeSet<>();
    for (Method method : face.getDeclaredMethods()) {
      if (isHidden(method)) hidden.add(method.getName());
      else open.add(told(method));
    }
    CHECK.isTrue("the methods are those of the document: " + open, open.equals(new TreeSet<>(Arrays.asList(METHODS))));
    for (String method : METHODS) {
      String name = method.substring(method.indexOf(' ') + 1, method.indexOf('('));
      CHECK.isTrue("no private method bears the name " + name, !hidden.contains(name));
    }
    CHECK.same("constructors", face.getDeclaredConstructors().length, 1);
    CHECK.same("modifiers of the constructor", face.getDeclaredConstructor().getModifiers(), Modifier.PUBLIC);
    constants(face);
    for (Class<?> inside : face.getDeclaredClasses()) {
      CHECK.isTrue("static, and not for others: " + inside, Modifier.isStatic(inside.getModifiers())
          && !Modifier.isPublic(inside.getModifiers()) && !Modifier.isProtected(inside.getModifiers()));
    }
    CHECK.end();
  }

  private static void constants(Class<?> face) throws ReflectiveOperationException {
    String[] names = {"NONE", "UNKNOWN", "OUTSIDE", "STATE", "FULL"};
    int[] due = {-1, -101, -102, -103, -104};
    for (int number = 0; number < names.length; number++) {
      CHECK.same(names[number], face.getField(names[number]).getInt(null), due[number]);
      CHECK.same("modifiers of " + names[number], face.getField(names[number]).getModifiers(),
          Modifier.PUBLIC | Modifier.STATIC | Modifier.FINAL);
    }
    int open = 0;
    for (Member field : face.getDeclaredFields()) if (!isHidden(field)) open++;
    CHECK.same("fields that are not private", open, names.length);
  }

  private static boolean isHidden(Member member) {
    return member.isSynthetic() || Modifier.isPrivate(member.getModifiers());
  }

  private static String told(Method method) {
    StringBuilder text = new StringBuilder(method.getReturnType() + " " + method.getName() + "(");
    String between = "";
    for (Class<?> type : method.getParameterTypes()) {
      text.append(between).append(type);
      between = ", ";
    }
    return text.append(")").toString();
  }
}
