import java.lang.reflect.Constructor;
import java.lang.reflect.Field;
import java.lang.reflect.Method;
import java.lang.reflect.Modifier;
import java.util.Set;
import java.util.TreeSet;

/** The public face is the document's, and nothing else can be seen from outside. */
public final class FaceTest {
    private static final String[] FACE = {
        "int people(int)", "int bow(int,int,int,int)", "int bowOf(int,int)", "int doubt(int,int)",
        "int let(int,boolean)", "int says(int,int,int,boolean)", "int sayingOf(int,int)", "int nights()",
        "long all()", "int likeliest()", "int wore(int,int)", "int may(int,int)", "long odds(int,int,int)",
        "int behind(int,int)", "int met(int)", "int lie()", "int deed(int,int,int,int,int)",
        "int deedOf(int,int)", "int turn(int,int)", "int as(int,int)", "int who(int,int)",
        "long same(int,int)", "long owes(int)", "int owesTo(int,int)", "long bound(int,int)", "int ask()",
        "int witnesses()", "int unsure()", "int home()", "int homeBow(int)", "int atHome(int)",
        "int since(int)", "int feed(int,int)", "int wipe()", "int carnival()", "int sheet(int,int,int)",
        "long write(int,int,long)", "int copy(int,int,int,int,int)", "int lays(int)", "int ledger(int,int)",
        "long read(int,int)", "int image()", "int undo()", "int tear()", "int count(int)", "int status(int)",
    };

    public static void main(String[] args) {
        Set<String> want = new TreeSet<>(Set.of(FACE));
        Set<String> names = new TreeSet<>();
        for (String signature : FACE) {
            names.add(signature.substring(signature.indexOf(' ') + 1, signature.indexOf('(')));
        }
        Set<String> got = new TreeSet<>();
        for (Method method : MaskBows.class.getDeclaredMethods()) {
            if (Modifier.isPrivate(method.getModifiers())) {
                Due.holds("a private method may not be named " + method.getName(), !names.contains(method.getName()));
            } else {
                Due.holds(method + " is public", Modifier.isPublic(method.getModifiers()));
                got.add(signatureOf(method));
            }
        }
        Due.holds("the face is " + want + ", it was " + got, want.equals(got));
        Due.is("how many calls the face has", 46, got.size());
        checkConstructors();
        checkFields();
        for (Class<?> inside : MaskBows.class.getDeclaredClasses()) {
            checkInside(inside, names);
        }
        Due.holds("the class is final", Modifier.isFinal(MaskBows.class.getModifiers()));
        Due.end("FaceTest");
    }

    private static String signatureOf(Method method) {
        StringBuilder text = new StringBuilder(method.getReturnType() + " " + method.getName() + "(");
        for (Class<?> type : method.getParameterTypes()) {
            text.append(text.charAt(text.length() - 1) == '(' ? "" : ",").append(type);
        }
        return text.append(")").toString();
    }

    private static void checkConstructors() {
        Constructor<?>[] constructors = MaskBows.class.getDeclaredConstructors();
        Due.is("how many constructors", 1, constructors.length);
        Due.is("parameters of the constructor", 0, constructors[0].getParameterCount());
        Due.holds("the constructor is public", Modifier.isPublic(constructors[0].getModifiers()));
    }

    private static void checkFields() {
        for (Field field : MaskBows.class.getDeclaredFields()) {
            Due.holds(field + " is private", Modifier.isPrivate(field.getModifiers()));
            boolean isStatic = Modifier.isStatic(field.getModifiers());
            Due.holds(field + " is final if static", !isStatic || Modifier.isFinal(field.getModifiers()));
        }
    }

    private static void checkInside(Class<?> inside, Set<String> names) {
        Due.holds(inside + " is static", Modifier.isStatic(inside.getModifiers()));
        Due.holds(inside + " is not public", !Modifier.isPublic(inside.getModifiers()));
        for (Method method : inside.getDeclaredMethods()) {
            Due.holds(method + " bears no name of the face", !names.contains(method.getName()));
            Due.holds(method + " has at most seven parameters", method.getParameterCount() <= 7);
        }
        for (Field field : inside.getDeclaredFields()) {
            boolean isStatic = Modifier.isStatic(field.getModifiers());
            Due.holds(field + " is final if static", !isStatic || Modifier.isFinal(field.getModifiers()));
        }
    }
}
