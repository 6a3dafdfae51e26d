import java.lang.reflect.Constructor;
import java.lang.reflect.Field;
import java.lang.reflect.Method;
import java.lang.reflect.Modifier;
import java.util.ArrayList;
import java.util.Arrays;
import java.util.Collections;
import java.util.List;

/** The public face: what the document lists, and nothing else that is not private. */
public final class FaceTest {
  private static final String[] FACE = {
    "int shelf(int,int) IllegalArgumentException",
    "boolean write(int,int,int) IndexOutOfBoundsException,IllegalArgumentException,IllegalStateException",
    "int read(int) IndexOutOfBoundsException,IllegalStateException",
    "int fail(int) IndexOutOfBoundsException,IllegalStateException",
    "int swap(int) IndexOutOfBoundsException",
    "int flip(int,int,int) IndexOutOfBoundsException,IllegalArgumentException,IllegalStateException",
    "int rebuild(int) IllegalArgumentException,IllegalStateException",
    "int patrol(int) IllegalArgumentException,IllegalStateException",
    "int giveUp(int) IndexOutOfBoundsException,IllegalStateException",
    "int kind(int,int,int,int) IndexOutOfBoundsException,IllegalArgumentException",
    "int fuse(int,int) IllegalArgumentException",
    "boolean off() IllegalStateException",
    "int power() IllegalStateException",
    "int boot(int) IllegalArgumentException,IllegalStateException",
    "int cell(int,int,int) IndexOutOfBoundsException,IllegalArgumentException",
    "int ofDisk(int,int) IndexOutOfBoundsException,IllegalArgumentException",
    "int ofBlock(int,int) IndexOutOfBoundsException,IllegalArgumentException",
    "int note(int) IllegalArgumentException",
    "int house(int) IllegalArgumentException",
    "String row(int) IndexOutOfBoundsException",
    "int draw(int) IllegalArgumentException",
    "int wouldBoot(int) IllegalArgumentException,IllegalStateException",
    "int wouldLose(int,int) IndexOutOfBoundsException,IllegalArgumentException",
    "boolean isSound() ",
    "int knock() ",
    "long digest() ",
  };

  public static void main(String[] args) {
    int modifiers = Staggershelf.class.getModifiers();
    Check.same("public and final", true, () -> Modifier.isPublic(modifiers) && Modifier.isFinal(modifiers));
    List<String> due = new ArrayList<>(Arrays.asList(FACE));
    Collections.sort(due);
    Check.same("the methods", due, FaceTest::openMethods);
    Constructor<?>[] constructors = Staggershelf.class.getDeclaredConstructors();
    Check.same("the constructors", "[public Staggershelf()]", () -> Arrays.toString(constructors));
    for (Field field : Staggershelf.class.getDeclaredFields()) {
      Check.same(field.getName() + " is private", true, () -> Modifier.isPrivate(field.getModifiers()));
    }
    for (Class<?> inside : Staggershelf.class.getDeclaredClasses()) {
      Check.same(inside.getName() + " is static, not public", true,
          () -> Modifier.isStatic(inside.getModifiers()) && !Modifier.isPublic(inside.getModifiers()));
    }
    Check.end("FaceTest");
  }

  private static List<String> openMethods() {
    List<String> all = new ArrayList<>();
    for (Method method : Staggershelf.class.getDeclaredMethods()) {
      if (!Modifier.isPrivate(method.getModifiers())) {
        all.add(method.getReturnType().getSimpleName() + " " + method.getName() + "("
            + names(method.getParameterTypes()) + ") " + names(method.getExceptionTypes()));
      }
    }
    Collections.sort(all);
    return all;
  }

  private static String names(Class<?>[] types) {
    List<String> all = new ArrayList<>();
    for (Class<?> type : types) {
      all.add(type.getSimpleName());
    }
    return String.join(",", all);
  }
}
