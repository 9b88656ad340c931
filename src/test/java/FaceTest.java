import java.lang.reflect.Constructor;
import java.lang.reflect.Field;
import java.lang.reflect.Method;
import java.lang.reflect.Modifier;
import java.util.Arrays;
import java.util.TreeSet;

/** The face of the class: the constants and methods of the document, and no others. */
public final class FaceTest {
    private static final Check CHECK = new Check();
    private static final String[] METHODS = {
        "int addPart()", "int setPixel(int,int,int,int)", "int type(char)", "int clearText()",
        "int draw(int)", "int pack(boolean)", "int setColor(int,int,int)",
        "int addSprite(int,int,int)", "int move(int,int,int)", "int set(int,int,int)",
        "int swap(int,int,int,int)", "int setLimit(int)", "int setStride(int)", "int next(int)",
        "int undo()", "int keep(int)", "int restore(int)", "int pixel(int,int,int)",
        "float share(int)", "int alike(int,int)", "int color(int,int)", "int sprite(int,int)",
        "int line(int,int)", "float weight(int)", "int shown(int,int)", "int meet(int,int)",
        "int shownIn(int,int)", "int count(int)"};

    public static void main(String[] args) throws IllegalAccessException {
        constants();
        methods();
        noMore();
        CHECK.end("FaceTest");
    }

    private static void constants() throws IllegalAccessException {
        TreeSet<String> found = new TreeSet<>();
        for (Field field : SpriteLines.class.getDeclaredFields()) {
            if (Modifier.isPublic(field.getModifiers())) {
                CHECK.holds(field + " is static", Modifier.isStatic(field.getModifiers()));
                CHECK.holds(field + " is final", Modifier.isFinal(field.getModifiers()));
                found.add(field.getName() + " = " + field.getInt(null));
            }
        }
        TreeSet<String> due = new TreeSet<>(Arrays.asList("UNKNOWN = -1", "BAD_VALUE = -2",
                "FULL = -3", "NOT_POSSIBLE = -4", "NONE = -5"));
        CHECK.holds("constants " + found, found.equals(due));
    }

    private static void methods() {
        TreeSet<String> found = new TreeSet<>();
        TreeSet<String> names = new TreeSet<>();
        for (Method method : SpriteLines.class.getDeclaredMethods()) {
            if (Modifier.isPublic(method.getModifiers())) {
                StringBuilder text = new StringBuilder();
                for (Class<?> type : method.getParameterTypes()) {
                    text.append(text.length() == 0 ? "" : ",").append(type.getName());
                }
                found.add(method.getReturnType() + " " + method.getName() + "(" + text + ")");
                names.add(method.getName());
            }
        }
        CHECK.holds("methods " + found, found.equals(new TreeSet<>(Arrays.asList(METHODS))));
        for (Method method : SpriteLines.class.getDeclaredMethods()) {
            if (Modifier.isPrivate(method.getModifiers())) {
                CHECK.holds(method + " has a name of its own", !names.contains(method.getName()));
            }
        }
    }

    private static void noMore() {
        CHECK.holds("public", Modifier.isPublic(SpriteLines.class.getModifiers()));
        CHECK.holds("final", Modifier.isFinal(SpriteLines.class.getModifiers()));
        Constructor<?>[] constructors = SpriteLines.class.getDeclaredConstructors();
        CHECK.due("constructors", constructors.length, 1);
        CHECK.holds("public", Modifier.isPublic(constructors[0].getModifiers()));
        CHECK.due("parameters", constructors[0].getParameterCount(), 0);
        for (Field field : SpriteLines.class.getDeclaredFields()) {
            onlyPublicOrPrivate(field.toString(), field.getModifiers());
        }
        for (Method method : SpriteLines.class.getDeclaredMethods()) {
            onlyPublicOrPrivate(method.toString(), method.getModifiers());
        }
        for (Class<?> inside : SpriteLines.class.getDeclaredClasses()) {
            int modifiers = inside.getModifiers();
            CHECK.holds(inside + " is static", Modifier.isStatic(modifiers));
            CHECK.holds(inside + " is not public", !Modifier.isPublic(modifiers));
        }
    }

    private static void onlyPublicOrPrivate(String member, int modifiers) {
        CHECK.holds(member, Modifier.isPublic(modifiers) || Modifier.isPrivate(modifiers));
    }
}
