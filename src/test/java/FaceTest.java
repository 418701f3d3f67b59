import java.lang.reflect.Constructor;
import java.lang.reflect.Field;
import java.lang.reflect.Method;
import java.lang.reflect.Modifier;
import java.util.Arrays;
import java.util.TreeSet;

/** The class has the document's face and nothing else that others could see. */
public final class FaceTest {
    private static final String[] FACE = {
        "int feed(long,long,long)", "int library()", "int year()", "int skin(int,int)", "int text(int,int)",
        "int layers(int,int)", "int layer(int,int,int)", "int read(int,int)", "boolean write(int,int,int)",
        "int scrape(int)", "int third(int)", "int week()", "boolean undo()", "int judged(int)",
        "int later(int,int,int)", "int when(int)", "int need(int)", "int lost()", "int place(int,int)",
        "int cost(int,int)", "int lay(int)", "int bears(int,int)", "int over(int)", "int deepest(int)",
        "int bare(int)", "int same()", "int giveup()", "int psalter(int)",
        "boolean see(int,int,int,boolean)", "int who()", "int ask(int)", "int chance(int,int,int)",
        "int rests(int,int,int,int)", "int years(int,int,int)", "boolean mark(int,boolean)", "int count(int)",
    };

    public static void main(String[] args) {
        Check check = new Check();
        TreeSet<String> due = new TreeSet<>(Arrays.asList(FACE));
        TreeSet<String> visible = new TreeSet<>();
        TreeSet<String> publicNames = new TreeSet<>();
        TreeSet<String> hiddenNames = new TreeSet<>();
        for (Method method : WornSkin.class.getDeclaredMethods()) {
            if (Modifier.isPrivate(method.getModifiers())) {
                hiddenNames.add(method.getName());
            } else {
                visible.add(describe(method));
                publicNames.add(method.getName());
                check.due(method + " is public", true, Modifier.isPublic(method.getModifiers()));
            }
        }
        check.due("the face " + visible, true, visible.equals(due));
        for (Class<?> inside : WornSkin.class.getDeclaredClasses()) {
            check.due(inside + " is static", true, Modifier.isStatic(inside.getModifiers()));
            for (Method method : inside.getDeclaredMethods()) {
                hiddenNames.add(method.getName());
            }
        }
        hiddenNames.retainAll(publicNames);
        check.due("hidden methods named as public ones " + hiddenNames, 0, hiddenNames.size());
        TreeSet<String> fields = new TreeSet<>();
        for (Field field : WornSkin.class.getDeclaredFields()) {
            if (!Modifier.isPrivate(field.getModifiers())) {
                fields.add(field.getName());
            }
        }
        check.due("the constants " + fields, true, fields.equals(new TreeSet<>(Arrays.asList("NONE"))));
        check.due("NONE", -1, WornSkin.NONE);
        Constructor<?>[] made = WornSkin.class.getDeclaredConstructors();
        check.due("constructors", 1, made.length);
        check.due("parameters", 0, made[0].getParameterCount());
        check.due("public final", true, Modifier.isPublic(WornSkin.class.getModifiers())
            && Modifier.isFinal(WornSkin.class.getModifiers()));
        check.end("FaceTest");
    }

    private static String describe(Method method) {
        StringBuilder text = new StringBuilder(method.getReturnType().getName() + " " + method.getName() + "(");
        for (int i = 0; i < method.getParameterCount(); i++) {
            text.append(i == 0 ? "" : ",").append(method.getParameterTypes()[i].getName());
        }
        return text.append(")").toString();
    }
}
