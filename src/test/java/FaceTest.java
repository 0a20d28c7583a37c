import java.lang.reflect.Constructor;
import java.lang.reflect.Field;
import java.lang.reflect.Method;
import java.lang.reflect.Modifier;
import java.util.Set;
import java.util.TreeSet;

/** The public face: what the document lists, and nothing else that is not private. */
public final class FaceTest {
    private static final Set<String> LEFT = face();

    public static void main(String[] args) {
        Sentences.under("The public face");
        theClass();
        lists("public static final int NONE = -1;", "public static final int WildCards.NONE");
        Checks.due("NONE", WildCards.NONE, -1);
        lists("public WildCards();", "public WildCards()");
        lists("public boolean feed(int a, int b, int c, int d, int e);",
                "public boolean WildCards.feed(int,int,int,int,int)");
        lists("public boolean end(int n);", "public boolean WildCards.end(int)");
        lists("public int pattern();", "public int WildCards.pattern()");
        lists("public int word();", "public int WildCards.word()");
        lists("public boolean fits();", "public boolean WildCards.fits()");
        lists("public boolean fitsPart(int from, int n);", "public boolean WildCards.fitsPart(int,int)");
        lists("public int beginnings();", "public int WildCards.beginnings()");
        nothingElse();
        Sentences.finish();
    }

    private static void theClass() {
        // The sign that the lines are Java's is quoted too: it is no sentence, but letters stand in it.
        Sentences.quote("```java public final class WildCards {");
        Checks.due("the class's modifiers", Modifier.toString(WildCards.class.getModifiers()), "public final");
        Checks.due("the class above it", WildCards.class.getSuperclass(), Object.class);
        Checks.due("its interfaces", WildCards.class.getInterfaces().length, 0);
        Checks.due("its package", WildCards.class.getPackageName(), "");
    }

    private static void lists(String words, String member) {
        Sentences.quote(words);
        Checks.due("the class has " + member, LEFT.remove(member), true);
    }

    /** LANGUAGE.md, rule 1: classes inside are not public, and nothing else is seen from outside. */
    private static void nothingElse() {
        Checks.about("");
        Checks.due("what the document does not list", LEFT, Set.of());
        for (Class<?> inside : WildCards.class.getDeclaredClasses()) {
            int kind = inside.getModifiers();
            Checks.due(inside + " is seen from outside", Modifier.isPublic(kind) || Modifier.isProtected(kind), false);
        }
    }

    private static Set<String> face() {
        Set<String> face = new TreeSet<>();
        for (Field field : WildCards.class.getDeclaredFields()) {
            if (!Modifier.isPrivate(field.getModifiers())) {
                face.add(field.toString());
            }
        }
        for (Constructor<?> constructor : WildCards.class.getDeclaredConstructors()) {
            face.add(constructor.toString());
        }
        for (Method method : WildCards.class.getDeclaredMethods()) {
            if (!Modifier.isPrivate(method.getModifiers())) {
                face.add(method.toString());
            }
        }
        return face;
    }
}
