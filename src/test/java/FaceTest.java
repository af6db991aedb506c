import java.lang.reflect.Constructor;
import java.lang.reflect.Field;
import java.lang.reflect.Method;
import java.lang.reflect.Modifier;
import java.util.ArrayList;
import java.util.Arrays;
import java.util.HashSet;
import java.util.List;
import java.util.Set;
import java.util.TreeSet;

/** The public face of the document, and what of LANGUAGE.md can be seen from outside. */
public final class FaceTest {
    private static final String[] METHODS = {
        "int glyph() IllegalStateException",
        "int point(int,int,int,boolean) IllegalArgumentException IllegalStateException",
        "boolean close(int)",
        "void place(int,int,int,int,int) IndexOutOfBoundsException IllegalArgumentException",
        "void component(int,int,int,int,int) IllegalArgumentException IllegalStateException",
        "boolean advance(int,int,int)",
        "boolean instance(int,int)",
        "int outline(int,int,int) IndexOutOfBoundsException",
        "boolean height(int)",
        "int draw(int,int,boolean) IllegalArgumentException",
        "int pixel(int,int)",
        "boolean sort(int,int,int)",
        "boolean kern(int,int,int)",
        "boolean pair(int,int,int)",
        "int rule(int,long,long,long,int) IllegalArgumentException IllegalStateException",
        "boolean type(int)",
        "int shape()",
        "int shaped(int,int) IndexOutOfBoundsException",
        "int count(int)"};
    private static final Check CHECK = new Check();

    public static void main(String[] args) {
        Class<?> face = TypeFoundry.class;
        CHECK.due("the class is public and final", face.getModifiers(), Modifier.PUBLIC | Modifier.FINAL);
        CHECK.due("NONE", TypeFoundry.NONE, -1);
        methods(face);
        constructors(face);
        fields(face);
        inside(face);
        CHECK.end();
    }

    private static void methods(Class<?> face) {
        Set<String> found = new TreeSet<>();
        Set<String> publicNames = new HashSet<>();
        List<Method> others = new ArrayList<>();
        for (Method method : face.getDeclaredMethods()) {
            atMostSevenParameters(method);
            if (Modifier.isPublic(method.getModifiers())) {
                found.add(told(method));
                publicNames.add(method.getName());
            } else {
                others.add(method);
            }
        }
        CHECK.note("public methods", found.toString(), new TreeSet<>(Arrays.asList(METHODS)).toString());
        for (Method method : others) {
            CHECK.no("the name of " + method + " is a public one's", publicNames.contains(method.getName()));
            CHECK.yes(method + " is private", Modifier.isPrivate(method.getModifiers()));
        }
    }

    private static String told(Method method) {
        StringBuilder text = new StringBuilder(method.getReturnType().getSimpleName());
        text.append(' ').append(method.getName()).append('(');
        for (Class<?> type : method.getParameterTypes()) {
            text.append(text.charAt(text.length() - 1) == '(' ? "" : ",").append(type.getSimpleName());
        }
        text.append(')');
        for (Class<?> type : method.getExceptionTypes()) {
            text.append(' ').append(type.getSimpleName());
        }
        return text.toString();
    }

    private static void constructors(Class<?> face) {
        Constructor<?>[] all = face.getDeclaredConstructors();
        CHECK.due("constructors", all.length, 1);
        CHECK.note("the constructor", all[0].toString(), "public TypeFoundry(int)");
    }

    private static void fields(Class<?> face) {
        for (Field field : face.getDeclaredFields()) {
            boolean isNone = field.getName().equals("NONE");
            CHECK.yes(field + " is private or NONE", isNone || Modifier.isPrivate(field.getModifiers()));
            staticIsFinal(field);
        }
    }

    private static void inside(Class<?> face) {
        for (Class<?> nested : face.getDeclaredClasses()) {
            CHECK.no(nested + " is public", Modifier.isPublic(nested.getModifiers()));
            CHECK.no(nested + " is protected", Modifier.isProtected(nested.getModifiers()));
            for (Field field : nested.getDeclaredFields()) {
                staticIsFinal(field);
            }
            for (Method method : nested.getDeclaredMethods()) {
                atMostSevenParameters(method);
            }
        }
    }

    private static void atMostSevenParameters(Method method) {
        CHECK.yes(method + " has at most seven parameters", method.getParameterCount() <= 7);
    }

    private static void staticIsFinal(Field field) {
        int modifiers = field.getModifiers();
        CHECK.yes(field + " is final if it is static", !Modifier.isStatic(modifiers) || Modifier.isFinal(modifiers));
    }
}
