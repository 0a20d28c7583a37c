import java.lang.reflect.Constructor;
import java.lang.reflect.Field;
import java.lang.reflect.Method;
import java.lang.reflect.Modifier;
import java.util.Set;
import java.util.TreeSet;

/** The public face: what the document lists, and nothing else that is not private. */
public final class FaceTest {
    public static void main(String[] args) {
        Checks.due("NONE", WildCards.NONE, -1);
        Checks.due("the class's modifiers", Modifier.toString(WildCards.class.getModifiers()), "public final");
        Checks.due("the face", face(), new TreeSet<>(Set.of(
                "public static final int WildCards.NONE",
                "public WildCards()",
                "public boolean WildCards.feed(int,int,int,int,int)",
                "public boolean WildCards.end(int)",
                "public int WildCards.pattern()",
                "public int WildCards.word()",
                "public boolean WildCards.fits()",
                "public boolean WildCards.fitsPart(int,int)",
                "public int WildCards.beginnings()")));
        Checks.finish();
    }

    private static Set<String> face() {
        Set<String> face = new TreeSet<>();
        for (Field field : WildCards.class.getDeclaredFields()) {
            if (!Modifier.isPrivate(field.getModifiers())) {
                face.add(field.toString());
            }
        }
        for (Constructor<?> constructor : WildCards.class.getDeclaredConstructors()) {
            face.add(constructor.toString());
        }
        for (Method method : WildCards.class.getDeclaredMethods()) {
            if (!Modifier.isPrivate(method.getModifiers())) {
                face.add(method.toString());
            }
        }
        return face;
    }
}
