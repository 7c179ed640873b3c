import java.lang.reflect.Constructor;
import java.lang.reflect.Field;
import java.lang.reflect.Method;
import java.lang.reflect.Modifier;
import java.util.Arrays;
import java.util.Set;
import java.util.TreeSet;

/** The class has the document's face, no other member that can be reached, and no name of the face twice. */
public final class FaceTest {
    private static final String[] FACE = {
        "int append(int,int,int,int,int)",
        "int load(int) I A",
        "int parseError()",
        "int errorPosition()",
        "int buffered()",
        "int count(int) S A",
        "int setting(int) S A",
        "int row(int,int) S I A",
        "int block(int,int) S I",
        "int piece(int,int) S I",
        "int kind(int,int) S I A",
        "int kindOf(boolean,int) S",
        "boolean isTight(int) S I",
        "int widestGap() S",
        "int loosest() S",
        "int longestLeft() S",
        "int lengthLeft() S",
        "double meanGap() S",
        "float woodShare() S",
        "float goodShare() S",
        "int choice(int,int) S I A",
        "int chosen(int,int) S I",
        "int ways(int) S I",
        "int nearest(int) S I",
        "int fewestAt(int,int) S I A",
        "int rowFor(int) S A",
        "int missing(int) S I",
        "boolean canPut(int,int) S I",
        "int freshChoice(int) S I",
        "int fillable(int) S A",
        "int fallsIn(int,boolean) S I",
        "int goodIn(int) S A",
        "int lockable() S",
        "int lockedAll() S",
        "int writeRow(int) S I",
        "int writeChoice(int) S I",
        "int writeStock() S",
        "int textByte(int) I",
        "int place(int,int) S I A",
        "int lift(int,int) S I",
        "int put(int,int) S I A",
        "int take(int,int) S I",
        "int quoin(int,boolean) S I A",
        "int open(int,int) S I A",
        "int lock(int) S I A",
        "int unlock(int) S I",
        "int relock(int) S I A",
        "int tighten(int) S I A",
        "int print(int) S A",
        "int rest(int) S A",
        "int buy(int,int) S I A",
        "int undo() S",
        "int undoable()",
        "int save(int) S I",
        "int restore(int) I S",
    };

    private static int wrong = 0;

    private static void hold(boolean is, String what) {
        if (!is) {
            wrong++;
            System.out.println("face: " + what);
        }
    }

    private static String told(Method m) {
        StringBuilder b = new StringBuilder();
        b.append(m.getReturnType().getSimpleName()).append(' ').append(m.getName()).append('(');
        Class<?>[] parameters = m.getParameterTypes();
        for (int i = 0; i < parameters.length; i++) {
            b.append(i > 0 ? "," : "").append(parameters[i].getSimpleName());
        }
        b.append(')');
        for (Class<?> e : m.getExceptionTypes()) {
            b.append(e == IllegalStateException.class ? " S"
                : e == IndexOutOfBoundsException.class ? " I"
                : e == IllegalArgumentException.class ? " A" : " ?");
        }
        return b.toString();
    }

    public static void main(String[] args) {
        Class<?> c = ChaseLocker.class;
        hold(Modifier.isPublic(c.getModifiers()) && Modifier.isFinal(c.getModifiers()), "public final");
        Set<String> due = new TreeSet<>(Arrays.asList(FACE));
        Set<String> names = new TreeSet<>();
        for (String f : FACE) {
            names.add(f.substring(f.indexOf(' ') + 1, f.indexOf('(')));
        }
        Set<String> got = new TreeSet<>();
        for (Method m : c.getDeclaredMethods()) {
            if (Modifier.isPrivate(m.getModifiers())) {
                hold(!names.contains(m.getName()), "a private method bears the name " + m.getName());
            } else {
                got.add(told(m));
                hold(Modifier.isPublic(m.getModifiers()) && !Modifier.isStatic(m.getModifiers()), told(m));
            }
        }
        for (String f : due) {
            hold(got.contains(f), "missing " + f);
        }
        for (String f : got) {
            hold(due.contains(f), "not in the document " + f);
        }
        for (Field f : c.getDeclaredFields()) {
            boolean isNone = f.getName().equals("NONE");
            int m = f.getModifiers();
            hold(isNone == Modifier.isPublic(m), "field " + f.getName());
            hold(isNone || Modifier.isPrivate(m), "field " + f.getName());
            hold(!isNone || Modifier.isStatic(m) && Modifier.isFinal(m) && f.getType() == int.class, "NONE");
        }
        Constructor<?>[] made = c.getDeclaredConstructors();
        hold(made.length == 1 && made[0].getParameterCount() == 0 && Modifier.isPublic(made[0].getModifiers()),
            "constructor");
        hold(ChaseLocker.NONE == -1, "NONE is -1");
        for (Class<?> inner : c.getDeclaredClasses()) {
            hold(Modifier.isStatic(inner.getModifiers()) && !Modifier.isPublic(inner.getModifiers())
                && !Modifier.isProtected(inner.getModifiers()), "class " + inner.getSimpleName());
            for (Method m : inner.getDeclaredMethods()) {
                hold(!names.contains(m.getName()), "an inner method bears the name " + m.getName());
            }
        }
        if (wrong != 0) {
            System.exit(1);
        }
    }
}
