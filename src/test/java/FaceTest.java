import java.lang.reflect.Constructor;
import java.lang.reflect.Field;
import java.lang.reflect.Method;
import java.lang.reflect.Modifier;
import java.util.TreeSet;

/** The class's face is the document's, with nothing more and nothing less. */
public final class FaceTest {
    private static final String ILLEGAL = " throws java.lang.IllegalArgumentException";
    private static final String STATE = " throws java.lang.IllegalStateException";
    private static final String INDEX = " throws java.lang.IndexOutOfBoundsException";
    private static final String[] DUE = {
        "public static final int StandTests.NONE",
        "public StandTests()",
        "public int StandTests.part(long,long,long,long)" + STATE + ",java.lang.IllegalArgumentException",
        "public boolean StandTests.foot(long,long)" + ILLEGAL,
        "public boolean StandTests.drawer(int,long)" + INDEX + ",java.lang.IllegalArgumentException",
        "public boolean StandTests.person(long,long,long)" + ILLEGAL,
        "public long StandTests.centre(int,int)" + INDEX + ",java.lang.IllegalStateException",
        "public int StandTests.side(int)" + STATE + ",java.lang.IndexOutOfBoundsException",
        "public int StandTests.tips(int)" + STATE + ",java.lang.IllegalArgumentException",
        "public long StandTests.moment(int,int)" + STATE + ",java.lang.IndexOutOfBoundsException",
        "public int StandTests.most()" + STATE,
        "public boolean StandTests.unit(int)",
        "public int StandTests.rules()",
        "public int StandTests.test(int,int)" + INDEX
            + ",java.lang.IllegalArgumentException,java.lang.IllegalStateException",
        "public boolean StandTests.anchor()" + STATE,
        "public double StandTests.wobble(long,long,long,long)" + STATE + ",java.lang.IllegalArgumentException",
        "public double StandTests.bend(double,double,double,double)" + ILLEGAL,
        "public double StandTests.creep(int)" + ILLEGAL,
        "public int StandTests.gap(long)",
    };

    private FaceTest() {
    }

    public static void main(String[] args) {
        Check.sameText("the class", Modifier.toString(StandTests.class.getModifiers()), "public final");
        TreeSet<String> due = new TreeSet<>();
        for (String member : DUE) {
            due.add(member);
        }
        TreeSet<String> face = new TreeSet<>();
        TreeSet<String> publicNames = new TreeSet<>();
        TreeSet<String> privateNames = new TreeSet<>();
        for (Method m : StandTests.class.getDeclaredMethods()) {
            if (Modifier.isPrivate(m.getModifiers())) {
                privateNames.add(m.getName());
            } else {
                face.add(m.toString());
                publicNames.add(m.getName());
            }
        }
        for (Constructor<?> c : StandTests.class.getDeclaredConstructors()) {
            face.add(c.toString());
        }
        for (Field f : StandTests.class.getDeclaredFields()) {
            if (!Modifier.isPrivate(f.getModifiers())) {
                face.add(f.toString());
            }
        }
        Check.sameText("the face", String.join("\n", face), String.join("\n", due));
        privateNames.retainAll(publicNames);
        Check.sameText("private methods under public names", privateNames.toString(), "[]");
        Check.done("FaceTest");
    }
}
