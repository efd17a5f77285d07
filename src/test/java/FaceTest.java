import java.lang.reflect.Constructor;
import java.lang.reflect.Field;
import java.lang.reflect.Method;
import java.lang.reflect.Modifier;
import java.util.Set;
import java.util.TreeSet;

/** The class has the document's face and no other member that is not private (LANGUAGE.md, rule 1). */
public final class FaceTest {
    private static final String[] FACE = {
        "public CommitDesk()",
        "public int CommitDesk.all(int) throws java.lang.IllegalArgumentException",
        "public void CommitDesk.back(int) throws java.lang.IllegalArgumentException,"
                + "java.lang.IllegalStateException,java.lang.UnsupportedOperationException",
        "public void CommitDesk.begin(int) throws java.lang.IllegalArgumentException,"
                + "java.lang.IllegalStateException",
        "public long CommitDesk.cell(int) throws java.lang.IndexOutOfBoundsException",
        "public int CommitDesk.changed(int) throws java.lang.IndexOutOfBoundsException",
        "public int CommitDesk.count(int,int) throws java.lang.IllegalArgumentException,"
                + "java.lang.IllegalStateException",
        "public boolean CommitDesk.done(int) throws java.lang.IllegalArgumentException,"
                + "java.lang.IllegalStateException",
        "public void CommitDesk.keep(int) throws java.lang.IllegalArgumentException,"
                + "java.lang.IllegalStateException,java.lang.UnsupportedOperationException",
        "public void CommitDesk.leave(int) throws java.lang.IllegalArgumentException,"
                + "java.lang.IllegalStateException",
        "public long CommitDesk.read(int,int) throws java.lang.IllegalArgumentException,"
                + "java.lang.IndexOutOfBoundsException,java.lang.IllegalStateException,"
                + "java.lang.UnsupportedOperationException",
        "public int CommitDesk.save(int) throws java.lang.IllegalArgumentException,"
                + "java.lang.IllegalStateException,java.lang.UnsupportedOperationException",
        "public void CommitDesk.set(int,long) throws java.lang.IndexOutOfBoundsException",
        "public void CommitDesk.write(int,int,long) throws java.lang.IllegalArgumentException,"
                + "java.lang.IndexOutOfBoundsException,java.lang.IllegalStateException",
    };

    public static void main(String[] args) {
        Check check = new Check();
        check.same("modifiers", Modifier.toString(CommitDesk.class.getModifiers()), "public final");
        check.same("face", visibleMembers().toString(), new TreeSet<>(Set.of(FACE)).toString());
        check.end();
    }

    private static Set<String> visibleMembers() {
        Set<String> visible = new TreeSet<>();
        for (Constructor<?> constructor : CommitDesk.class.getDeclaredConstructors()) {
            visible.add(constructor.toString());
        }
        for (Method method : CommitDesk.class.getDeclaredMethods()) {
            if (!Modifier.isPrivate(method.getModifiers())) {
                visible.add(method.toString());
            }
        }
        for (Field field : CommitDesk.class.getDeclaredFields()) {
            if (!Modifier.isPrivate(field.getModifiers())) {
                visible.add(field.toString());
            }
        }
        return visible;
    }
}
