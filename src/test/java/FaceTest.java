import java.lang.reflect.Constructor;
import java.lang.reflect.Field;
import java.lang.reflect.Member;
import java.lang.reflect.Method;
import java.lang.reflect.Modifier;
import java.util.ArrayList;
import java.util.List;
import java.util.Set;
import java.util.TreeSet;

/** The public face is the document's, and no other member can be seen from outside. */
public final class FaceTest {
    private static final Checks CHECKS = new Checks("the face");
    private static final String OUTSIDE = "java.lang.IndexOutOfBoundsException";
    private static final String REFUSED = "java.lang.IllegalArgumentException";
    private static final String UNREADY = "java.lang.IllegalStateException";

    private static final Set<String> FACE = new TreeSet<>(List.of(
            "public static final int DigestStack.NONE",
            "public DigestStack()",
            "public int DigestStack.feed(int,long) throws " + REFUSED,
            "public void DigestStack.begin(int,int) throws " + OUTSIDE + "," + REFUSED,
            "public int DigestStack.code(int,int) throws " + OUTSIDE + "," + REFUSED,
            "public long DigestStack.update(int) throws " + OUTSIDE + "," + UNREADY,
            "public long DigestStack.repeat(int,int,int) throws " + OUTSIDE + "," + UNREADY + "," + REFUSED,
            "public int DigestStack.finish(int) throws " + OUTSIDE + "," + UNREADY,
            "public void DigestStack.copy(int,int) throws " + OUTSIDE + "," + UNREADY,
            "public int DigestStack.about(int,int) throws " + OUTSIDE,
            "public int DigestStack.hold(int) throws " + OUTSIDE,
            "public int DigestStack.keep(int) throws " + OUTSIDE,
            "public int DigestStack.draw(int) throws " + REFUSED,
            "public int DigestStack.spread(int,int) throws " + REFUSED,
            "public int DigestStack.stretch(int,int,int) throws " + REFUSED,
            "public int DigestStack.out(int)",
            "public long DigestStack.outs(int)",
            "public boolean DigestStack.isOut()",
            "public long DigestStack.constant(int)"));

    public static void main(String[] args) {
        Class<?> face = DigestStack.class;
        CHECKS.due("the class", "public final", () -> Modifier.toString(face.getModifiers()));
        CHECKS.due("NONE", -1, () -> DigestStack.NONE);
        CHECKS.due("the face", FACE, () -> seen(face));
        CHECKS.due("private methods with a public name", Set.of(), () -> doubled(face));
        CHECKS.due("static fields that are not final", Set.of(), () -> loose(face));
        CHECKS.end();
    }

    private static Set<String> seen(Class<?> face) {
        List<Member> members = new ArrayList<>();
        members.addAll(List.of(face.getDeclaredFields()));
        members.addAll(List.of(face.getDeclaredMethods()));
        members.addAll(List.of(face.getDeclaredConstructors()));
        Set<String> all = new TreeSet<>();
        for (Member member : members) {
            if (!Modifier.isPrivate(member.getModifiers()) && !member.isSynthetic()) {
                all.add(text(member));
            }
        }
        return all;
    }

    private static String text(Member member) {
        if (member instanceof Field field) {
            return field.toString();
        }
        return member instanceof Method method ? method.toString() : ((Constructor<?>) member).toString();
    }

    private static Set<String> doubled(Class<?> face) {
        Set<String> open = new TreeSet<>();
        for (Method method : face.getDeclaredMethods()) {
            if (Modifier.isPublic(method.getModifiers())) {
                open.add(method.getName());
            }
        }
        Set<String> both = new TreeSet<>();
        for (Class<?> owner : withInner(face)) {
            for (Method method : owner.getDeclaredMethods()) {
                if (!Modifier.isPublic(method.getModifiers()) && open.contains(method.getName())) {
                    both.add(method.toString());
                }
            }
        }
        return both;
    }

    private static Set<String> loose(Class<?> face) {
        Set<String> all = new TreeSet<>();
        for (Class<?> owner : withInner(face)) {
            for (Field field : owner.getDeclaredFields()) {
                int modifiers = field.getModifiers();
                if (Modifier.isStatic(modifiers) && !Modifier.isFinal(modifiers)) {
                    all.add(field.toString());
                }
            }
        }
        return all;
    }

    private static List<Class<?>> withInner(Class<?> face) {
        List<Class<?>> all = new ArrayList<>(List.of(face.getDeclaredClasses()));
        all.add(face);
        return all;
    }
}
