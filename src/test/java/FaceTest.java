import java.lang.reflect.Member;
import java.lang.reflect.Method;
import java.lang.reflect.Modifier;
import java.util.Set;
import java.util.TreeSet;

/** The public face has what the document shows, and nothing else can be seen from outside. */
public final class FaceTest {
    private static final String FACE = "blank(iiiii)i fill(iiiiiii)i noise(iili)v shift(iii)i put(iiiii)i sample(iiii)i "
        + "size(ii)i drop(i)i feed(li)i alter(ii)i tape(i)i wipe()i set(ii)i reel(i)i unreel()i make(i)i read()i "
        + "bytes(i)i film(ii)i coded(iii)i part(iiii)i look(iiiii)i mended(iiiii)b shown(ii)i buffer(iiii)i "
        + "row(iii)i cut()i kept(ii)b forget()i filter()i apply(iii)i distance(iii)i first(ii)b twin(ii)i "
        + "movement(iiii)i play(iiii)v tick(i)i lose(ii)v seek(ii)v player(ii)i frame(iiii)i count(i)i";

    public static void main(String[] args) {
        Set<String> got = new TreeSet<>();
        for (Method method : PictureHouse.class.getDeclaredMethods()) {
            if (Modifier.isPrivate(method.getModifiers())) {
                Check.due("no private method is named as a public one: " + method.getName(),
                    FACE.matches("(^|.* )" + method.getName() + "\\(.*"), false);
                continue;
            }
            Check.due("public: " + method, Modifier.isPublic(method.getModifiers()), true);
            StringBuilder text = new StringBuilder(method.getName()).append('(');
            for (Class<?> type : method.getParameterTypes()) {
                text.append(type.getName().charAt(0));
            }
            got.add(text.append(')').append(method.getReturnType().getName().charAt(0)).toString());
        }
        Check.due("the methods", got.equals(new TreeSet<>(Set.of(FACE.split(" ")))), true);
        Member[] fields = PictureHouse.class.getDeclaredFields();
        for (Member field : fields) {
            Check.due("private: " + field.getName(), Modifier.isPrivate(field.getModifiers()), true);
        }
        Check.due("one constructor", PictureHouse.class.getDeclaredConstructors().length, 1);
        Check.due("public and final", PictureHouse.class.getModifiers(), Modifier.PUBLIC | Modifier.FINAL);
        Check.end("FaceTest");
    }
}
