import java.lang.reflect.Constructor;
import java.lang.reflect.Field;
import java.lang.reflect.Method;
import java.lang.reflect.Modifier;
import java.util.ArrayList;
import java.util.List;
import java.util.Set;
import java.util.TreeSet;

/** The public face is the document's and nothing more. */
public final class FaceTest {
    private static final String[] FACE = {
        "public static final int OutputStore.NONE",
        "public OutputStore()",
        "public int OutputStore.path(int)",
        "public int OutputStore.begin(int,int,int)",
        "public int OutputStore.stage(int,int,long,boolean,boolean)",
        "public int OutputStore.end(int,boolean)",
        "public int OutputStore.abandon(int)",
        "public boolean OutputStore.cache(long,boolean)",
        "public int OutputStore.read(int,int)",
        "public long OutputStore.held(int)",
        "public boolean OutputStore.letGo(int)",
        "public long OutputStore.content(int,int)",
        "public int OutputStore.about(int,int,int)",
        "public int OutputStore.list(int,int,int)",
        "public boolean OutputStore.dirty(int,int)",
        "public int OutputStore.clear(int)",
        "public int OutputStore.copies(long)",
        "public int OutputStore.stored()",
    };

    public static void main(String[] args) {
        Set<String> due = new TreeSet<>(List.of(FACE));
        Set<String> visible = new TreeSet<>(visibleMembers());
        for (String member : due) {
            Checks.due("the face has " + member, visible.contains(member), true);
        }
        for (String member : visible) {
            Checks.due("the document has " + member, due.contains(member), true);
        }
        int modifiers = OutputStore.class.getModifiers();
        Checks.due("public and final", Modifier.isPublic(modifiers) && Modifier.isFinal(modifiers), true);
        Checks.due("NONE", OutputStore.NONE, -1);
        namesOfPrivateMethods();
        Checks.finish();
    }

    private static List<String> visibleMembers() {
        List<String> visible = new ArrayList<>();
        for (Field field : OutputStore.class.getDeclaredFields()) {
            if (!Modifier.isPrivate(field.getModifiers())) {
                visible.add(field.toString());
            }
        }
        for (Constructor<?> constructor : OutputStore.class.getDeclaredConstructors()) {
            if (!Modifier.isPrivate(constructor.getModifiers())) {
                visible.add(constructor.toString());
            }
        }
        for (Method method : OutputStore.class.getDeclaredMethods()) {
            if (!Modifier.isPrivate(method.getModifiers())) {
                visible.add(method.toString());
            }
        }
        return visible;
    }

    private static void namesOfPrivateMethods() {
        Set<String> names = new TreeSet<>();
        for (Method method : OutputStore.class.getDeclaredMethods()) {
            Checks.due("one method alone is named " + method.getName(), names.add(method.getName()), true);
        }
        for (Class<?> inside : OutputStore.class.getDeclaredClasses()) {
            Checks.due(inside + " is static", Modifier.isStatic(inside.getModifiers()), true);
            for (Method method : inside.getDeclaredMethods()) {
                Checks.due(method + " shares no name", names.contains(method.getName()), false);
            }
        }
    }
}
