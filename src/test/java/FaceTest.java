import java.lang.management.ManagementFactory;
import java.lang.reflect.Constructor;
import java.lang.reflect.Field;
import java.lang.reflect.Method;
import java.lang.reflect.Modifier;
import java.util.Set;
import java.util.TreeSet;

/** The face of the document and no other, and a room that calls do not fill. */
public final class FaceTest {
    private static final String FACE = "int set(int,int,int) int customer(int,int,int) int told(int,int) int feed(int) "
        + "int text() int force(int) int board(int) long fair(int) long buysOne(int) int hour(int,int) int cubes(int) "
        + "int shelf(int) int apron(int) int stand(int,int) int setting(int) int sendAway(int) int lost(int) "
        + "int tells(int,int,int) int film(int,int,int) int sell(int) long chance(int,int,int,int) int image() "
        + "int back() int count(int) int sheet(int,int,int) int cell(int,int,int) int copy(int,int,int,int,int) "
        + "int customers(int,int,int,int) int taken(int,int)";

    private static void face(Due due) {
        Set<String> want = new TreeSet<>();
        String[] words = FACE.split(" ");
        for (int i = 0; i < words.length; i += 2) {
            want.add(words[i] + " " + words[i + 1]);
        }
        Set<String> got = new TreeSet<>();
        Set<String> names = new TreeSet<>();
        for (Method m : OneCubeEach.class.getDeclaredMethods()) {
            if (Modifier.isPublic(m.getModifiers())) {
                StringBuilder s = new StringBuilder();
                for (Class<?> p : m.getParameterTypes()) {
                    s.append(s.length() > 0 ? "," : "").append(p.getName());
                }
                got.add(m.getReturnType().getName() + " " + m.getName() + "(" + s + ")");
                names.add(m.getName());
            }
        }
        due.hold("the methods " + got, got.equals(want));
        for (Method m : OneCubeEach.class.getDeclaredMethods()) {
            boolean hidden = Modifier.isPrivate(m.getModifiers());
            due.hold("public or private: " + m, hidden || Modifier.isPublic(m.getModifiers()));
            due.hold("a name of its own: " + m, !hidden || !names.contains(m.getName()));
        }
        int modifiers = OneCubeEach.class.getModifiers();
        due.hold("public and final", Modifier.isPublic(modifiers) && Modifier.isFinal(modifiers));
        Constructor<?>[] made = OneCubeEach.class.getDeclaredConstructors();
        due.hold("one constructor", made.length == 1 && made[0].getParameterCount() == 0
            && Modifier.isPublic(made[0].getModifiers()));
        fields(due, OneCubeEach.class, "[BAD, FULL, NO, NONE, STATE]");
        int classes = 1;
        for (Class<?> c : OneCubeEach.class.getDeclaredClasses()) {
            classes++;
            due.hold("static: " + c, Modifier.isStatic(c.getModifiers()) && !Modifier.isPublic(c.getModifiers()));
            fields(due, c, "[]");
        }
        due.hold("some twelve classes: " + classes, classes <= 12);
    }

    private static void fields(Due due, Class<?> c, String open) {
        Set<String> seen = new TreeSet<>();
        int own = 0;
        for (Field f : c.getDeclaredFields()) {
            boolean fixed = Modifier.isStatic(f.getModifiers());
            own += fixed ? 0 : 1;
            due.hold("static and final: " + f, !fixed || Modifier.isFinal(f.getModifiers()));
            if (Modifier.isPublic(f.getModifiers())) {
                seen.add(f.getName());
            }
        }
        due.hold("public fields of " + c + ": " + seen, seen.toString().equals(open));
        due.hold("some twenty fields of " + c, own <= 20);
    }

    private static void use(OneCubeEach x, int round) {
        for (int i = 0; i < 9; i++) {
            x.customer(i % 6, i, i);
        }
        String text = "eats cube + hunger - hour * sorts; odds number + girl or 5; spends not 3 < 4;";
        for (int i = 0; i < text.length(); i++) {
            x.feed(text.charAt(i));
        }
        x.force(x.text());
        for (int what = 0; what < 8; what++) {
            x.board(what);
            x.cubes(what % 2);
            x.setting(what % 2);
            x.stand(what, 0);
            x.film(what % 4, what, 40);
            x.tells(what % 4, what, what);
            x.fair(what);
            x.buysOne(what);
            x.chance(round, 20, 30, 0);
            x.sell(round);
            x.image();
            x.back();
            x.sheet(what % 4, what % 3, 40);
            x.copy(0, 0, 3, 1, 30);
            x.customers(what % 4, what % 3, 0, 8);
            x.told(what, 15);
            x.count(what);
        }
    }

    private static void room(Due due) {
        com.sun.management.ThreadMXBean threads = (com.sun.management.ThreadMXBean) ManagementFactory.getThreadMXBean();
        long self = Thread.currentThread().getId();
        use(new OneCubeEach(), 0);
        OneCubeEach x = new OneCubeEach();
        threads.getThreadAllocatedBytes(self);
        long before = threads.getThreadAllocatedBytes(self);
        use(x, 1);
        long after = threads.getThreadAllocatedBytes(self);
        due.hold("a run makes next to nothing: " + (after - before) + " bytes", after - before < 20000);
    }

    public static void main(String[] args) {
        Due due = new Due();
        face(due);
        room(due);
        due.be("NONE", OneCubeEach.NONE, -1);
        due.be("BAD", OneCubeEach.BAD, -2);
        due.be("STATE", OneCubeEach.STATE, -3);
        due.be("FULL", OneCubeEach.FULL, -4);
        due.be("NO", OneCubeEach.NO, -4611686018427387904L);
        due.end();
    }
}
