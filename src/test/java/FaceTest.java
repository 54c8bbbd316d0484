import java.lang.reflect.Constructor;
import java.lang.reflect.Field;
import java.lang.reflect.Method;
import java.lang.reflect.Modifier;
import java.util.Set;
import java.util.TreeSet;

/** The public face is the document's, and nothing else of the class can be seen. */
public final class FaceTest {
    private static final String[] FACE = {
        "public void ServiceDisk.format(int) throws java.lang.IndexOutOfBoundsException",
        "public void ServiceDisk.reserve(int) throws java.lang.IndexOutOfBoundsException,java.lang.IllegalStateException",
        "public int ServiceDisk.row(int,long,int) throws java.lang.IllegalArgumentException,"
                + "java.lang.IndexOutOfBoundsException,java.lang.IllegalStateException,"
                + "java.lang.UnsupportedOperationException",
        "public int ServiceDisk.sync() throws java.lang.IllegalStateException",
        "public int ServiceDisk.save(long) throws java.lang.IllegalStateException",
        "public long ServiceDisk.state() throws java.lang.IllegalStateException",
        "public void ServiceDisk.cut(int,int) throws java.lang.IndexOutOfBoundsException,java.lang.IllegalStateException",
        "public int ServiceDisk.start() throws java.lang.IllegalStateException",
        "public void ServiceDisk.alter(int,int,int,int) throws java.lang.IllegalArgumentException,"
                + "java.lang.IndexOutOfBoundsException,java.lang.IllegalStateException",
        "public int ServiceDisk.read(int,int) throws java.lang.IllegalArgumentException,"
                + "java.lang.IndexOutOfBoundsException,java.lang.IllegalStateException",
        "public int ServiceDisk.kind(int) throws java.lang.IllegalArgumentException,java.lang.IllegalStateException",
        "public int ServiceDisk.extract(int,int) throws java.lang.IndexOutOfBoundsException,"
                + "java.lang.IllegalStateException",
        "public void ServiceDisk.line(boolean) throws java.lang.IllegalStateException",
        "public int ServiceDisk.send(int) throws java.lang.IndexOutOfBoundsException,java.lang.IllegalStateException",
        "public int ServiceDisk.gap(int) throws java.lang.IndexOutOfBoundsException,java.lang.IllegalStateException",
        "public int ServiceDisk.fill(int) throws java.lang.IndexOutOfBoundsException,java.lang.IllegalStateException",
        "public int ServiceDisk.count(int) throws java.lang.IllegalArgumentException,java.lang.IllegalStateException",
    };

    public static void main(String[] args) {
        Check check = new Check();
        methodsAreTheDocuments(check);
        nothingElseIsSeen(check);
        check.end("FaceTest");
    }

    private static void methodsAreTheDocuments(Check check) {
        Set<String> due = new TreeSet<>(Set.of(FACE));
        Set<String> found = new TreeSet<>();
        Set<String> names = new TreeSet<>();
        for (Method method : ServiceDisk.class.getDeclaredMethods()) {
            if (!Modifier.isPrivate(method.getModifiers())) {
                found.add(method.toString());
                names.add(method.getName());
            }
        }
        check.same("the methods", due.toString(), found.toString());
        for (Method method : ServiceDisk.class.getDeclaredMethods()) {
            boolean hidden = Modifier.isPrivate(method.getModifiers());
            check.isTrue(method + " has a name of its own", !hidden || !names.contains(method.getName()));
        }
    }

    private static void nothingElseIsSeen(Check check) {
        check.isTrue("the class is final", Modifier.isFinal(ServiceDisk.class.getModifiers()));
        check.isTrue("the class is public", Modifier.isPublic(ServiceDisk.class.getModifiers()));
        Constructor<?>[] constructors = ServiceDisk.class.getDeclaredConstructors();
        check.due("constructors", 1, () -> constructors.length);
        check.same("the constructor", "public ServiceDisk()", constructors[0].toString());
        for (Field field : ServiceDisk.class.getDeclaredFields()) {
            check.isTrue(field + " is hidden", Modifier.isPrivate(field.getModifiers()));
        }
        for (Class<?> inside : ServiceDisk.class.getDeclaredClasses()) {
            check.isTrue(inside + " is not public", !Modifier.isPublic(inside.getModifiers()));
            check.isTrue(inside + " is static", Modifier.isStatic(inside.getModifiers()));
        }
    }

    private FaceTest() {}
}
