import java.lang.reflect.Constructor;
import java.lang.reflect.Executable;
import java.lang.reflect.Field;
import java.lang.reflect.Method;
import java.lang.reflect.Modifier;
import java.util.Arrays;
import java.util.Set;
import java.util.TreeSet;

/** The public face of the document, and the rules of LANGUAGE.md that show in the compiled class. */
public final class FaceTest {
    private static final String[] FACE = {
        "public MigrantHeap()",
        "public int newClass() throws java.lang.IllegalStateException",
        "public void make(int,int) throws java.lang.IllegalArgumentException,java.lang.IllegalStateException",
        "public int get(int,int) throws java.lang.IllegalArgumentException,java.util.NoSuchElementException",
        "public void set(int,int,int) throws java.lang.IllegalArgumentException,java.util.NoSuchElementException,java.lang.IllegalStateException",
        "public void link(int,int,int) throws java.lang.IllegalArgumentException,java.util.NoSuchElementException,java.lang.IllegalStateException",
        "public void follow(int,int,int) throws java.lang.IllegalArgumentException,java.util.NoSuchElementException",
        "public boolean drop(int) throws java.lang.IllegalArgumentException",
        "public boolean same(int,int) throws java.lang.IllegalArgumentException",
        "public int word(int) throws java.lang.IllegalArgumentException,java.lang.IllegalStateException",
        "public int step(int,int,int,int,int) throws java.lang.IllegalArgumentException,java.lang.IllegalStateException",
        "public int change(int) throws java.lang.IllegalArgumentException,java.lang.IllegalStateException",
        "public int takeBack(int) throws java.lang.IllegalArgumentException,java.lang.IllegalStateException",
        "public int versionOf(int) throws java.lang.IllegalArgumentException,java.util.NoSuchElementException",
        "public int touch(int) throws java.lang.IllegalArgumentException,java.util.NoSuchElementException",
        "public int sweep(int) throws java.lang.IllegalArgumentException",
        "public int collect()",
        "public int about(int,int) throws java.lang.IllegalArgumentException",
        "public int field(int,int,int) throws java.lang.IllegalArgumentException,java.lang.IndexOutOfBoundsException",
        "public int fault()",
    };

    private FaceTest() {
    }

    public static void main(String[] args) {
        theFaceIsTheDocuments();
        theRestIsPrivate();
        classesInsideAreStatic();
        Expect.end();
    }

    private static void theFaceIsTheDocuments() {
        Set<String> due = new TreeSet<>(Arrays.asList(FACE));
        Set<String> got = new TreeSet<>();
        for (Constructor<?> constructor : MigrantHeap.class.getConstructors()) {
            got.add(plain(constructor));
        }
        for (Method method : MigrantHeap.class.getDeclaredMethods()) {
            if (!Modifier.isPrivate(method.getModifiers())) {
                got.add(plain(method));
            }
        }
        for (String member : due) {
            Expect.yes("the face has " + member, got.contains(member));
        }
        for (String member : got) {
            Expect.yes("the document has " + member, due.contains(member));
        }
        Expect.yes("the class is final", Modifier.isFinal(MigrantHeap.class.getModifiers()));
    }

    private static String plain(Executable member) {
        return member.toGenericString().replace("MigrantHeap.", "");
    }

    private static void theRestIsPrivate() {
        Set<String> open = new TreeSet<>();
        for (Method method : MigrantHeap.class.getMethods()) {
            open.add(method.getName());
        }
        for (Method method : MigrantHeap.class.getDeclaredMethods()) {
            if (Modifier.isPrivate(method.getModifiers())) {
                Expect.no("private " + method.getName() + " bears a public name", open.contains(method.getName()));
            }
        }
        for (Field field : MigrantHeap.class.getDeclaredFields()) {
            Expect.yes(field.getName() + " is private", Modifier.isPrivate(field.getModifiers()));
        }
    }

    private static void classesInsideAreStatic() {
        Expect.yes("at most twelve classes", MigrantHeap.class.getDeclaredClasses().length < 12);
        for (Class<?> inside : MigrantHeap.class.getDeclaredClasses()) {
            Expect.yes(inside + " is static", Modifier.isStatic(inside.getModifiers()));
            Expect.no(inside + " is public", Modifier.isPublic(inside.getModifiers()));
            for (Field field : inside.getDeclaredFields()) {
                boolean fixed = !Modifier.isStatic(field.getModifiers()) || Modifier.isFinal(field.getModifiers());
                Expect.yes(field + " is no static state", fixed);
            }
        }
    }
}
