import java.lang.reflect.Constructor;
import java.lang.reflect.Field;
import java.lang.reflect.Method;
import java.lang.reflect.Modifier;
import java.util.ArrayList;
import java.util.Collections;
import java.util.HashSet;
import java.util.List;
import java.util.Set;

/** The public face, and that the class has no member beside it that another could see. */
final class FaceTest {
    private static final String FACE = """
            public int comparison(int, int) throws IndexOutOfBoundsException, IllegalArgumentException
            public int star(int) throws IllegalArgumentException, IllegalStateException
            public int bias(int, int) throws IndexOutOfBoundsException, IllegalArgumentException
            public int clock(int, int) throws IndexOutOfBoundsException, IllegalArgumentException
            public int plate(int, int, int) throws IllegalArgumentException, IllegalStateException
            public int join(int, int) throws IndexOutOfBoundsException, IllegalArgumentException
            public int step(int, int, int, int, int, int, int) throws IndexOutOfBoundsException, IllegalArgumentException, IllegalStateException
            public int density(int, int, int) throws IndexOutOfBoundsException, IllegalArgumentException, IllegalStateException
            public boolean doubt(int, boolean) throws IndexOutOfBoundsException
            public int minimum(int, int) throws IndexOutOfBoundsException, IllegalArgumentException, IllegalStateException
            public int merge(int, int) throws IndexOutOfBoundsException, IllegalStateException
            public int split(int) throws IndexOutOfBoundsException, IllegalStateException
            public int entry(int) throws IndexOutOfBoundsException
            public int entries(int) throws IndexOutOfBoundsException
            public int look(int, int) throws IndexOutOfBoundsException, IllegalArgumentException
            public int string(int, int) throws IndexOutOfBoundsException, IllegalArgumentException
            public int together(int, int, int) throws IndexOutOfBoundsException, IllegalArgumentException
            public int period(int, int, int, int) throws IndexOutOfBoundsException, IllegalArgumentException, IllegalStateException
            public int aliases(int, int, int, int, int) throws IndexOutOfBoundsException, IllegalArgumentException, IllegalStateException
            public int claim(int, int) throws IndexOutOfBoundsException, IllegalArgumentException
            public int feature(int, int) throws IndexOutOfBoundsException, IllegalArgumentException, IllegalStateException
            public int rule(int, int, int, int, int) throws IllegalArgumentException, IllegalStateException
            public boolean withdraw(int, boolean) throws IndexOutOfBoundsException
            public int votes(int, int) throws IndexOutOfBoundsException, IllegalArgumentException, IllegalStateException
            public int kind(int) throws IndexOutOfBoundsException, IllegalStateException
            public int cycle(int, int, int, boolean) throws IndexOutOfBoundsException, IllegalArgumentException
            public int lost(int, int) throws IndexOutOfBoundsException, IllegalArgumentException
            public int dust(int, int) throws IndexOutOfBoundsException, IllegalArgumentException
            public int zero(int) throws IllegalArgumentException
            public int mean(int) throws IndexOutOfBoundsException, IllegalStateException
            public int modulus(int) throws IndexOutOfBoundsException, IllegalStateException
            public int nearest(int) throws IndexOutOfBoundsException
            """;

    private FaceTest() { }

    static void run() {
        Check.test("face: constants", FaceTest::constants);
        Check.test("face: methods", FaceTest::methods);
        Check.test("face: nothing else is visible", FaceTest::nothingElse);
        Check.test("face: the document's, word for word and in its order", FaceTest::asTheDocumentHasIt);
    }

    /** With the names of the arguments, which the compiled class does not tell. */
    private static void asTheDocumentHasIt() {
        List<String> face = Document.face();
        Check.due("lines of the face", face.size(), 36);
        String source = Source.text().replaceAll("\\s+", " ");
        int from = 0;
        for (String line : face) {
            String due = line.endsWith(")") || line.contains(" class ") || line.contains(" throws ") ? line + " {" : line + ";";
            int at = source.indexOf(due, from);
            if (at < 0) {
                Check.wrong("the source does not go on with: " + due);
            } else {
                from = at + due.length();
            }
        }
        Check.due("public things in the source", source.split("\\bpublic ", -1).length - 1, face.size());
    }

    private static void constants() {
        Check.due("NONE", LightcurveHouse.NONE, -1);
        Check.due("AMPLITUDE", LightcurveHouse.AMPLITUDE, 0);
        Check.due("PERIOD", LightcurveHouse.PERIOD, 1);
        Check.due("RISE", LightcurveHouse.RISE, 2);
    }

    private static void methods() {
        List<String> due = new ArrayList<>(List.of(FACE.strip().split("\n")));
        List<String> found = new ArrayList<>();
        for (Method m : LightcurveHouse.class.getDeclaredMethods()) {
            if (Modifier.isPublic(m.getModifiers())) {
                found.add(told(m));
            }
        }
        Collections.sort(due);
        Collections.sort(found);
        if (!due.equals(found)) {
            Check.wrong("the methods are " + found);
        }
    }

    private static String told(Method m) {
        StringBuilder told = new StringBuilder(Modifier.toString(m.getModifiers()));
        told.append(' ').append(m.getReturnType().getSimpleName()).append(' ').append(m.getName());
        told.append('(').append(names(m.getParameterTypes())).append(')');
        if (m.getExceptionTypes().length > 0) {
            told.append(" throws ").append(names(m.getExceptionTypes()));
        }
        return told.toString();
    }

    private static String names(Class<?>[] types) {
        List<String> names = new ArrayList<>();
        for (Class<?> type : types) {
            names.add(type.getSimpleName());
        }
        return String.join(", ", names);
    }

    private static void nothingElse() {
        Class<?> house = LightcurveHouse.class;
        Check.due("public and final", house.getModifiers(), Modifier.PUBLIC | Modifier.FINAL);
        Constructor<?>[] makers = house.getDeclaredConstructors();
        Check.due("constructors", makers.length, 1);
        Check.due("public constructor", makers[0].getModifiers(), Modifier.PUBLIC);
        Set<String> publicNames = new HashSet<>();
        for (Method m : house.getDeclaredMethods()) {
            if (Modifier.isPublic(m.getModifiers())) {
                publicNames.add(m.getName());
            }
        }
        for (Method m : house.getDeclaredMethods()) {
            if (!Modifier.isPublic(m.getModifiers())) {
                Check.due(m.getName() + " is private", Modifier.isPrivate(m.getModifiers()), true);
                Check.due(m.getName() + " has a public one's name", publicNames.contains(m.getName()), false);
            }
        }
        Set<String> constants = Set.of("NONE", "AMPLITUDE", "PERIOD", "RISE");
        for (Field f : house.getDeclaredFields()) {
            Check.due(f.getName() + " is public", Modifier.isPublic(f.getModifiers()), constants.contains(f.getName()));
            Check.due(f.getName() + " is private", Modifier.isPrivate(f.getModifiers()), !constants.contains(f.getName()));
            Check.due(f.getName() + " static but not final",
                    Modifier.isStatic(f.getModifiers()) && !Modifier.isFinal(f.getModifiers()), false);
        }
        for (Class<?> inside : house.getDeclaredClasses()) {
            Check.due(inside.getName() + " is static", Modifier.isStatic(inside.getModifiers()), true);
            Check.due(inside.getName() + " is public", Modifier.isPublic(inside.getModifiers()), false);
        }
    }
}
