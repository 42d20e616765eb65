import java.lang.reflect.Constructor;
import java.lang.reflect.Field;
import java.lang.reflect.Method;
import java.lang.reflect.Modifier;
import java.util.Arrays;
import java.util.TreeSet;

/** The public face is the document's and nothing else. */
final class FaceTest {
    private static final String[] FACE = {
        "public static final int PagedTree.NONE",
        "public PagedTree()",
        "public boolean PagedTree.put(int,int) throws java.lang.UnsupportedOperationException",
        "public int PagedTree.get(int) throws java.util.NoSuchElementException",
        "public boolean PagedTree.remove(int)",
        "public boolean PagedTree.seek(int)",
        "public boolean PagedTree.next() throws java.util.NoSuchElementException",
        "public int PagedTree.cursor(boolean) throws java.util.NoSuchElementException",
        "public int PagedTree.flush()",
        "public int PagedTree.drop() throws java.lang.IllegalStateException",
        "public int PagedTree.page(int,int) throws java.lang.IndexOutOfBoundsException,java.lang.IllegalArgumentException",
        "public int PagedTree.item(int,int,boolean) throws java.lang.IndexOutOfBoundsException",
        "public int PagedTree.frame(int,int) throws java.lang.IndexOutOfBoundsException,java.lang.IllegalArgumentException",
        "public int PagedTree.told(int)",
        "public int PagedTree.astray()",
    };

    public static void main(String[] args) {
        TreeSet<String> found = new TreeSet<>();
        for (Field field : PagedTree.class.getDeclaredFields()) {
            if (!Modifier.isPrivate(field.getModifiers())) {
                found.add(field.toString());
            }
        }
        for (Constructor<?> constructor : PagedTree.class.getDeclaredConstructors()) {
            found.add(constructor.toString());
        }
        TreeSet<String> privateNames = new TreeSet<>();
        TreeSet<String> publicNames = new TreeSet<>();
        for (Method method : PagedTree.class.getDeclaredMethods()) {
            if (Modifier.isPrivate(method.getModifiers())) {
                privateNames.add(method.getName());
            } else {
                found.add(method.toString());
                publicNames.add(method.getName());
            }
        }
        Check.dueText("the face", String.join("\n", found), String.join("\n", new TreeSet<>(Arrays.asList(FACE))));
        privateNames.retainAll(publicNames);
        Check.due("private methods with a public one's name", privateNames.size(), 0);
        Check.due("the class is public and final", PagedTree.class.getModifiers(), Modifier.PUBLIC | Modifier.FINAL);
        Check.due("NONE", PagedTree.NONE, -1);
        Check.end();
    }
}
