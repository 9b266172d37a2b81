import java.lang.reflect.Constructor;
import java.lang.reflect.Field;
import java.lang.reflect.Method;
import java.lang.reflect.Modifier;
import java.util.TreeSet;

/** The public face: just the constants, the constructor and the methods of the document. */
public final class FaceTest {
    private static final String[] FACE = {
        "int bill(int)", "int bills(int,int,int)", "int senator(int,int)", "int mend(int,int,int)", "int of(int,int)",
        "int feed(int)", "int law()", "int cross(int)", "int reader(int)", "long passes(int,int,int)",
        "long quiet(int,int,int,int)", "long mean(int,int,int)", "int order(int,int,int)",
        "long orderWorth(int,int,int)", "int pack(int,int)", "int causes(int,int)", "long cause(int,int,int)",
        "int apart(int,int)", "long power(int,int)", "int leagues(int)", "int byTurns(int,int,int)",
        "int drawn(int,int,int,int)", "int read(int)", "int fed()", "int born(int,int)", "int pass(int)",
        "int led(int)", "int image()", "int back()", "int undo()", "int redo()", "int body(int)",
        "int act(int,int,int)", "int trace(int)", "int keep(int,int)", "int row(int,int,int)",
        "int put(int,int,long)", "long element(int,int)", "int shift(int,int,int,int,int)", "int taken(int,int)",
        "int count(int)"};

    public static void main(String[] args) {
        TreeSet<String> due = new TreeSet<>();
        for (String each : FACE) due.add(each);
        TreeSet<String> got = new TreeSet<>();
        for (Method each : CradleVeto.class.getDeclaredMethods()) {
            if (!Modifier.isPrivate(each.getModifiers())) got.add(told(each));
        }
        if (!got.equals(due)) System.out.println("methods: " + got);
        Due.so("the methods are those of the face", got.equals(due));
        int shown = 0;
        for (Field each : CradleVeto.class.getDeclaredFields()) {
            if (!Modifier.isPrivate(each.getModifiers())) shown++;
        }
        Due.is("constants", shown, 5);
        Constructor<?>[] made = CradleVeto.class.getDeclaredConstructors();
        Due.is("constructors", made.length, 1);
        Due.so("the class is public and final", CradleVeto.class.getModifiers() == (Modifier.PUBLIC | Modifier.FINAL));
        Due.is("BAD", CradleVeto.BAD, -1);
        Due.is("NOT", CradleVeto.NOT, -2);
        Due.is("FULL", CradleVeto.FULL, -3);
        Due.is("STATE", CradleVeto.STATE, -5);
        Due.is("VOID", CradleVeto.VOID, -2000000000);
        Due.end();
    }

    private static String told(Method each) {
        StringBuilder text = new StringBuilder(each.getReturnType().getName() + " " + each.getName() + "(");
        for (Class<?> type : each.getParameterTypes()) {
            if (text.charAt(text.length() - 1) != '(') text.append(',');
            text.append(type.getName());
        }
        return text.append(')').toString();
    }
}
