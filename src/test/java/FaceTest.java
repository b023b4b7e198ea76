import java.lang.reflect.Member;
import java.lang.reflect.Method;
import java.lang.reflect.Modifier;
import java.util.Set;
import java.util.TreeSet;

/** The public face has what the document shows, and nothing else can be seen from outside. */
public final class FaceTest {
    /** Types by their first letters, then exceptions in their order: X index, A argument, S state. */
    private static final String FACE = "blank(iiiii)iAS fill(iiiiiii)iXA noise(iili)vXA shift(iii)iXAS put(iiiii)iXA sample(iiii)iX size(ii)iXA "
        + "drop(i)iA feed(li)iAS alter(ii)iX tape(i)i wipe()i set(ii)iA reel(i)iXAS unreel()i make(i)iAS read()iS "
        + "bytes(i)iX film(ii)iXA coded(iii)iXA part(iiii)iXA look(iiiii)iX mended(iiiii)bX shown(ii)iXS "
        + "buffer(iiii)iXA row(iii)iXAS cut()iS kept(ii)bX forget()i filter()iS apply(iii)iXS distance(iii)iXA "
        + "first(ii)bX twin(ii)iX movement(iiii)iXA play(iiii)vXA tick(i)iXS lose(ii)vXS seek(ii)vXS player(ii)iXAS "
        + "frame(iiii)iXS count(i)iA";

    public static void main(String[] args) {
        Set<String> got = new TreeSet<>();
        for (Method method : PictureHouse.class.getDeclaredMethods()) {
            if (Modifier.isPrivate(method.getModifiers())) {
                Check.due("no private method is named as a public one: " + method.getName(),
                    FACE.matches("(^|.* )" + method.getName() + "\\(.*"), false);
                continue;
            }
            Check.due("public: " + method, Modifier.isPublic(method.getModifiers()), true);
            StringBuilder text = new StringBuilder(method.getName()).append('(');
            for (Class<?> type : method.getParameterTypes()) {
                text.append(type.getName().charAt(0));
            }
            text.append(')').append(method.getReturnType().getName().charAt(0));
            for (Class<?> type : method.getExceptionTypes()) {
                text.append(type == IndexOutOfBoundsException.class ? 'X' : type == IllegalArgumentException.class ? 'A' : 'S');
            }
            got.add(text.toString());
        }
        Check.due("the methods", got.equals(new TreeSet<>(Set.of(FACE.split(" ")))), true);
        Member[] fields = PictureHouse.class.getDeclaredFields();
        for (Member field : fields) {
            Check.due("private: " + field.getName(), Modifier.isPrivate(field.getModifiers()), true);
        }
        Check.due("one constructor", PictureHouse.class.getDeclaredConstructors().length, 1);
        Check.due("public and final", PictureHouse.class.getModifiers(), Modifier.PUBLIC | Modifier.FINAL);
        Check.end("FaceTest");
    }
}
