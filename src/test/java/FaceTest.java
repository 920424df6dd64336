import java.lang.reflect.Constructor;
import java.lang.reflect.Field;
import java.lang.reflect.Method;
import java.lang.reflect.Modifier;
import java.util.Arrays;
import java.util.TreeSet;

/** The public face: what the document lists, and no other member that is not private. */
public final class FaceTest {
    public static void main(String[] args) {
        TreeSet<String> want = new TreeSet<>(Arrays.asList(
            "int call(int,int,int,int)", "int steps(int)", "int until(int,int)", "boolean crash()", "boolean hang()",
            "int force(int,int)", "int user(int,int)", "int descriptor(int,int,int)", "int file(int,int)",
            "int disk(int,int)", "int inbox(int)", "int message(int,int,int)", "int count(int)"));
        TreeSet<String> got = new TreeSet<>();
        TreeSet<String> hidden = new TreeSet<>();
        for (Method m : ServerHouse.class.getDeclaredMethods()) {
            if (Modifier.isPrivate(m.getModifiers())) {
                hidden.add(m.getName());
                continue;
            }
            StringBuilder s = new StringBuilder(m.getReturnType() + " " + m.getName() + "(");
            for (int i = 0; i < m.getParameterCount(); i++) {
                s.append(i == 0 ? "" : ",").append(m.getParameterTypes()[i]);
            }
            got.add(s.append(")").toString());
            Check.due(m.getName() + " is public, not static", Modifier.isPublic(m.getModifiers())
                && !Modifier.isStatic(m.getModifiers()), true);
        }
        Check.due("the methods " + got, got.equals(want), true);
        for (String name : want) {
            String bare = name.substring(name.indexOf(' ') + 1, name.indexOf('('));
            Check.due("a private " + bare, hidden.contains(bare), false);
        }
        for (Field f : ServerHouse.class.getDeclaredFields()) {
            Check.due("field " + f.getName() + " is seen", !Modifier.isPrivate(f.getModifiers()),
                f.getName().equals("NONE"));
            Check.due("field " + f.getName() + " is static and not final",
                Modifier.isStatic(f.getModifiers()) && !Modifier.isFinal(f.getModifiers()), false);
        }
        Constructor<?>[] made = ServerHouse.class.getDeclaredConstructors();
        Check.due("constructors", made.length, 1);
        Check.due("the constructor's parameters", made[0].getParameterCount(), 0);
        Check.due("the constructor is public", Modifier.isPublic(made[0].getModifiers()), true);
        Check.due("the class is public and final", Modifier.isPublic(ServerHouse.class.getModifiers())
            && Modifier.isFinal(ServerHouse.class.getModifiers()), true);
        Check.due("NONE", ServerHouse.NONE, -1);
        Check.end();
    }
}
