import java.lang.reflect.Field;
import java.lang.reflect.Method;
import java.lang.reflect.Modifier;
import java.util.Set;
import java.util.TreeSet;

/** The public face, and promise 1: a new object. */
public final class FaceTest {
    private static final String[] METHODS = {
        "int feed(int,long)", "int reference()", "int read(int)", "int place()", "int sequence(int,int)",
        "int letter(int,int)", "int table(int,int)", "int record(int,int,int)", "int row(int,int,int,int)",
        "int call(int,int,int,int)", "int normalise(int)", "int split(int)", "int join(int)", "int sort(int)",
        "int merge()", "int apply(int,int,int,int)", "int carried(int)", "int back(int)",
        "boolean same(int,int,int,int)", "int write(int)", "int out(int)", "int again()"
    };

    public static void main(String[] args) {
        face();
        newObject();
        Check.end("FaceTest");
    }

    private static void face() {
        Check.due("public and final", VariantDesk.class.getModifiers(), Modifier.PUBLIC | Modifier.FINAL);
        Set<String> want = new TreeSet<>(Set.of(METHODS));
        Set<String> got = new TreeSet<>();
        Set<String> hidden = new TreeSet<>();
        for (Method method : VariantDesk.class.getDeclaredMethods()) {
            if (Modifier.isPrivate(method.getModifiers())) {
                hidden.add(method.getName());
            } else {
                got.add(shape(method));
            }
        }
        Check.due("the methods", got.toString(), want.toString());
        for (String method : METHODS) {
            String name = method.substring(method.indexOf(' ') + 1, method.indexOf('('));
            Check.due("a private method " + name, hidden.contains(name) ? 1 : 0, 0);
        }
        for (Field field : VariantDesk.class.getDeclaredFields()) {
            boolean open = !Modifier.isPrivate(field.getModifiers());
            Check.due("field " + field.getName(), open ? 1 : 0, field.getName().equals("NONE") ? 1 : 0);
        }
        Check.due("constructors", VariantDesk.class.getDeclaredConstructors().length, 1);
        Check.due("NONE", VariantDesk.NONE, -1);
    }

    private static String shape(Method method) {
        StringBuilder text = new StringBuilder();
        text.append(method.getReturnType()).append(' ').append(method.getName()).append('(');
        Class<?>[] types = method.getParameterTypes();
        for (int k = 0; k < types.length; k++) {
            text.append(k > 0 ? "," : "").append(types[k]);
        }
        return text.append(')').toString();
    }

    private static void newObject() {
        VariantDesk desk = new VariantDesk();
        Check.dueIndex("sequence(0, 0)", () -> desk.sequence(0, 0));
        Check.dueIndex("letter(0, 1)", () -> desk.letter(0, 1));
        for (int t = 0; t < 2; t++) {
            int table = t;
            Check.due("records", desk.table(t, 0), 0);
            Check.due("samples", desk.table(t, 1), 0);
            for (int what = 2; what <= 4; what++) {
                Check.due("sample's name", desk.table(t, what), -1);
            }
            Check.dueIndex("record", () -> desk.record(table, 0, 0));
            Check.dueIndex("row", () -> desk.row(table, 0, 0, 0));
            Check.dueIndex("call", () -> desk.call(table, 0, 0, 0));
            Check.dueIndex("apply", () -> desk.apply(table, 0, 0, 0));
            Check.due("normalise", desk.normalise(t), 0);
            Check.due("split", desk.split(t), 0);
            Check.due("join", desk.join(t), 0);
            Check.due("sort", desk.sort(t), 0);
        }
        Check.due("merge", desk.merge(), 0);
        Check.due("place", desk.place(), -1);
        Check.due("out", desk.out(0), -1);
        Check.due("carried", desk.carried(1), -1);
        Check.due("back", desk.back(1), -1);
        Check.due("again", desk.again(), 0);
    }
}
