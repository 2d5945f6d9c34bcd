import java.lang.reflect.Constructor;
import java.lang.reflect.Field;
import java.lang.reflect.Member;
import java.lang.reflect.Method;
import java.lang.reflect.Modifier;
import java.util.Arrays;
import java.util.TreeSet;

/** The class shows what the document's public face shows, and nothing else. */
public final class FaceTest {
    private static final String[] FACE = {
        "int NONE", "int BAD", "int STATE", "int FULL", "long NO", "PennyMore()",
        "int buyer(int,int,int)", "int of(int,int)", "int gained(int)", "int friend(int,int)", "int row(int,int,int)",
        "int back(int)", "int set(int,int)", "int feed(int)", "int shop()", "int told(int)", "int would(int)", "int go()",
        "int run(int)", "int first(int)", "int order(int,int)", "int letBy(int)", "long lot(int)", "int fee()",
        "int onePrice(int)", "int aunt(int)", "int slips(int)", "long sure(int,int)", "int film(int)", "int off()",
        "int judge(int,int)", "int image()", "int undo()", "int act(int,int,int)", "int trace(int)",
        "int taken(int,int)", "int count(int)", "int tape(int,int,int)", "int item(int,int,long)", "long read(int,int)",
        "int shift(int,int,int,int,int)"};

    private static String of(Class<?>[] types) {
        StringBuilder all = new StringBuilder("(");
        for (Class<?> type : types) {
            all.append(all.length() > 1 ? "," : "").append(type.getName());
        }
        return all.append(")").toString();
    }

    private static boolean shown(Member member) {
        return !Modifier.isPrivate(member.getModifiers());
    }

    public static void main(String[] args) {
        TreeSet<String> shown = new TreeSet<>();
        TreeSet<String> hiddenNames = new TreeSet<>();
        boolean allPublic = Modifier.isPublic(PennyMore.class.getModifiers())
            && Modifier.isFinal(PennyMore.class.getModifiers());
        for (Field f : PennyMore.class.getDeclaredFields()) {
            if (shown(f)) {
                shown.add(f.getType().getName() + " " + f.getName());
                int all = Modifier.PUBLIC | Modifier.STATIC | Modifier.FINAL;
                allPublic &= (f.getModifiers() & all) == all;
            }
        }
        for (Constructor<?> c : PennyMore.class.getDeclaredConstructors()) {
            if (shown(c)) {
                shown.add("PennyMore" + of(c.getParameterTypes()));
                allPublic &= Modifier.isPublic(c.getModifiers());
            }
        }
        for (Method m : PennyMore.class.getDeclaredMethods()) {
            if (shown(m)) {
                shown.add(m.getReturnType().getName() + " " + m.getName() + of(m.getParameterTypes()));
                allPublic &= Modifier.isPublic(m.getModifiers()) && !Modifier.isStatic(m.getModifiers());
            } else {
                hiddenNames.add(m.getName());
            }
        }
        TreeSet<String> face = new TreeSet<>(Arrays.asList(FACE));
        boolean right = allPublic && shown.equals(face);
        for (String member : FACE) {
            int from = member.indexOf(' ') + 1;
            int to = member.indexOf('(');
            right &= to < 0 || !hiddenNames.contains(member.substring(from, to));
        }
        if (!right) {
            System.out.println("the face is " + shown + ", due is " + face);
        }
        System.out.println((right ? 1 : 0) + " passed, " + (right ? 0 : 1) + " failed");
        if (!right) {
            System.exit(1);
        }
    }
}
