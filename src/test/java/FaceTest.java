import java.lang.reflect.Constructor;
import java.lang.reflect.Field;
import java.lang.reflect.Method;
import java.lang.reflect.Modifier;
import java.util.Set;
import java.util.TreeSet;

/** The class shows the document's face and nothing beside it. */
public final class FaceTest {
    private static final String[] METHODS = {
        "int carrier(int,long,int)", "int state(int)", "boolean event(int,int,int)", "int last(int)",
        "boolean fail(int,int)", "int failed(int,int)", "int pass(int,int)", "int byteAt(int,int)",
        "int read(int,int,int)", "int unlike(int)", "long odds(int,int,int,int)", "boolean shred(int,int)",
        "int paper(int,int,int)", "int at(int,int)", "int mark(int,long,int)", "boolean check(int,long,long)",
        "int listed(long)", "int missing(int)", "int extra(int)", "int lost(int)", "int told(int)", "int states()"
    };

    public static void main(String[] args) {
        Due.yes("public and final", Modifier.isPublic(WipePapers.class.getModifiers())
            && Modifier.isFinal(WipePapers.class.getModifiers()));
        methods();
        fields();
        constant();
        classesInside();
        Constructor<?>[] constructors = WipePapers.class.getDeclaredConstructors();
        Due.is("constructors", constructors.length, 1);
        Due.yes("public WipePapers()", Modifier.isPublic(constructors[0].getModifiers())
            && constructors[0].getParameterCount() == 0);
        Due.end();
    }

    private static void methods() {
        Set<String> face = new TreeSet<>();
        Set<String> faceNames = new TreeSet<>();
        Set<String> privateNames = new TreeSet<>();
        for (Method m : WipePapers.class.getDeclaredMethods()) {
            if (Modifier.isPrivate(m.getModifiers())) {
                privateNames.add(m.getName());
            } else {
                Due.yes(m + " is public", Modifier.isPublic(m.getModifiers()) && !Modifier.isStatic(m.getModifiers()));
                face.add(written(m));
                faceNames.add(m.getName());
            }
        }
        Due.yes("the methods are the document's: " + face, face.equals(new TreeSet<>(Set.of(METHODS))));
        privateNames.retainAll(faceNames);
        Due.is("private methods with a public one's name " + privateNames, privateNames.size(), 0);
    }

    private static String written(Method m) {
        StringBuilder text = new StringBuilder(m.getReturnType().getName()).append(' ').append(m.getName()).append('(');
        for (int i = 0; i < m.getParameterCount(); i++) {
            text.append(i == 0 ? "" : ",").append(m.getParameterTypes()[i].getName());
        }
        return text.append(')').toString();
    }

    private static void fields() {
        for (Field f : WipePapers.class.getDeclaredFields()) {
            boolean isNone = f.getName().equals("NONE");
            Due.is(f + " is private", Modifier.isPrivate(f.getModifiers()) ? 1 : 0, isNone ? 0 : 1);
            boolean isStatic = Modifier.isStatic(f.getModifiers());
            Due.yes(f + " is final if static", !isStatic || Modifier.isFinal(f.getModifiers()));
        }
    }

    private static void constant() {
        Due.is("NONE", WipePapers.NONE, -1);
        for (Field f : WipePapers.class.getFields()) {
            Due.yes(f + " is the document's", f.toString().equals("public static final int WipePapers.NONE"));
        }
        Due.is("public constants", WipePapers.class.getFields().length, 1);
    }

    private static void classesInside() {
        for (Class<?> inside : WipePapers.class.getDeclaredClasses()) {
            int modifiers = inside.getModifiers();
            Due.yes(inside + " is not shown", !Modifier.isPublic(modifiers) && !Modifier.isProtected(modifiers));
            Due.yes(inside + " is static", Modifier.isStatic(modifiers));
        }
    }
}
