import java.lang.reflect.Constructor;
import java.lang.reflect.Field;
import java.lang.reflect.Method;
import java.lang.reflect.Modifier;
import java.util.Set;
import java.util.TreeSet;
import java.util.stream.Collectors;
import java.util.stream.Stream;

/** The public face, and that the class has no other visible member. */
public final class FaceTest {
    private static final String[] FACE = {
        "public static final int EqualTerms.NONE",
        "public static final int EqualTerms.FULL",
        "public static final int EqualTerms.OVER",
        "public static final int EqualTerms.LONG",
        "public EqualTerms()",
        "public int EqualTerms.type(long,int)",
        "public int EqualTerms.wipe()",
        "public int EqualTerms.character(int)",
        "public int EqualTerms.place()",
        "public int EqualTerms.rule()"
                + " throws java.lang.IllegalArgumentException,java.lang.IllegalStateException",
        "public int EqualTerms.add()"
                + " throws java.lang.IllegalArgumentException,java.lang.IllegalStateException",
        "public int EqualTerms.unite()"
                + " throws java.lang.IllegalArgumentException,java.lang.IllegalStateException",
        "public int EqualTerms.same() throws java.lang.IllegalArgumentException",
        "public void EqualTerms.price(int,int) throws java.lang.IllegalArgumentException",
        "public int EqualTerms.rounds(int) throws java.lang.IllegalArgumentException",
        "public int EqualTerms.nodes()",
        "public int EqualTerms.classes()",
        "public int EqualTerms.members() throws java.lang.IllegalArgumentException",
        "public long EqualTerms.cost() throws java.lang.IllegalArgumentException",
        "public int EqualTerms.best() throws java.lang.IllegalArgumentException",
    };

    public static void main(String[] args) {
        Set<String> visible = Stream.of(
                        Stream.of(EqualTerms.class.getDeclaredFields())
                                .filter(f -> shows(f.getModifiers()))
                                .map(Field::toGenericString),
                        Stream.of(EqualTerms.class.getDeclaredConstructors())
                                .filter(c -> shows(c.getModifiers()))
                                .map(Constructor::toGenericString),
                        Stream.of(EqualTerms.class.getDeclaredMethods())
                                .filter(m -> shows(m.getModifiers()))
                                .map(Method::toGenericString))
                .flatMap(s -> s)
                .collect(Collectors.toCollection(TreeSet::new));
        Set<String> face = new TreeSet<>(Set.of(FACE));
        Script.due("face", "visible members", visible.toString(), face.toString());
        int modifiers = EqualTerms.class.getModifiers();
        Script.due("face", "class", Modifier.toString(modifiers), "public final");
        Script.due("face", "NONE", "" + EqualTerms.NONE, "-1");
        Script.due("face", "FULL", "" + EqualTerms.FULL, "-2");
        Script.due("face", "OVER", "" + EqualTerms.OVER, "-3");
        Script.due("face", "LONG", "" + EqualTerms.LONG, "-4");
        Script.end();
    }

    private static boolean shows(int modifiers) {
        return !Modifier.isPrivate(modifiers);
    }
}
