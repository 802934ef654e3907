import java.lang.reflect.Constructor;
import java.lang.reflect.Field;
import java.lang.reflect.Method;
import java.lang.reflect.Modifier;
import java.util.TreeSet;

/** The public face is just the document's, and nothing else of the class can be seen from outside. */
final class FaceTest {
    public static void main(String[] args) {
        TreeSet<String> due = new TreeSet<>();
        due.add("public static final int QueryReader.NONE");
        due.add("public QueryReader()");
        due.add("public void QueryReader.feed(int,int,int,int,int) throws java.lang.IllegalStateException");
        due.add("public void QueryReader.end(int) throws java.lang.IllegalArgumentException");
        due.add("public int QueryReader.read()");
        due.add("public int QueryReader.kind()");
        due.add("public int QueryReader.length()");
        due.add("public int QueryReader.letter(int) throws java.lang.IndexOutOfBoundsException");
        due.add("public int QueryReader.mark()");
        due.add("public int QueryReader.names()");
        due.add("public int QueryReader.depth()");
        due.add("public boolean QueryReader.again()");

        TreeSet<String> got = new TreeSet<>();
        for (Field field : QueryReader.class.getDeclaredFields()) {
            if (!Modifier.isPrivate(field.getModifiers())) {
                got.add(field.toString());
            }
        }
        for (Method method : QueryReader.class.getDeclaredMethods()) {
            if (!Modifier.isPrivate(method.getModifiers())) {
                got.add(method.toString());
            }
        }
        for (Constructor<?> constructor : QueryReader.class.getDeclaredConstructors()) {
            got.add(constructor.toString());
        }
        Checks.same("the face", got.toString(), due.toString());
        Checks.holds("final", Modifier.isFinal(QueryReader.class.getModifiers()));
        Checks.holds("public", Modifier.isPublic(QueryReader.class.getModifiers()));
        Checks.same("NONE", QueryReader.NONE, -1);
        Checks.finish("FaceTest");
    }
}
