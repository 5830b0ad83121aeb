import java.lang.reflect.Constructor;
import java.lang.reflect.Field;
import java.lang.reflect.Method;
import java.lang.reflect.Modifier;
import java.nio.file.Files;
import java.nio.file.Path;
import java.util.TreeSet;

/** The public face, promise 1 (a new object), and words that the language's rules leave out. */
public final class FaceTest {
    private static final Checks CHECKS = new Checks();
    private static final String FACE =
        "ask/3 bus/1 command/1 device/2 fault/0 front/1 give/0 lay/0 log/2 parallel/0 poll/0 "
        + "put/2 row/3 sum/1 take/1 takeBack/0 tick/1 tune/3 wipe/0 write/1 ";
    private static final int[][] FIRST = {
        {2, 0, 31, 1, 0}, {1, 4, 31, 2, 5}, {0, 7, 1, 1, 0},
        {0, 7, 2, 4, 0}, {1, 9, 31, 5, 2}, {2, 21, 31, 1, 0}};

    public static void main(String[] args) throws Exception {
        face();
        constants();
        newObject();
        objectsAreApart();
        rules();
        CHECKS.end("FaceTest");
    }

    private static void face() {
        TreeSet<String> names = new TreeSet<>();
        TreeSet<String> hidden = new TreeSet<>();
        for (Method m : TalkBus.class.getDeclaredMethods()) {
            if (Modifier.isPrivate(m.getModifiers())) {
                hidden.add(m.getName());
            } else {
                names.add(m.getName() + "/" + m.getParameterCount());
                CHECKS.holds(m + " answers an int", m.getReturnType() == int.class);
                CHECKS.holds(m + " is public", Modifier.isPublic(m.getModifiers()));
                CHECKS.holds(m + " is no static one", !Modifier.isStatic(m.getModifiers()));
                for (Class<?> type : m.getParameterTypes()) {
                    CHECKS.holds(m + " takes ints", type == int.class);
                }
            }
        }
        StringBuilder all = new StringBuilder();
        for (String name : names) {
            all.append(name).append(' ');
            String bare = name.substring(0, name.indexOf('/'));
            CHECKS.holds("no private method is named " + bare, !hidden.contains(bare));
        }
        CHECKS.holds("the face is " + all, all.toString().equals(FACE));
        Constructor<?>[] made = TalkBus.class.getDeclaredConstructors();
        CHECKS.holds("one public constructor without parameters", made.length == 1
            && made[0].getParameterCount() == 0 && Modifier.isPublic(made[0].getModifiers()));
        CHECKS.holds("the class is final", Modifier.isFinal(TalkBus.class.getModifiers()));
        CHECKS.holds("the class is public", Modifier.isPublic(TalkBus.class.getModifiers()));
        for (Class<?> inside : TalkBus.class.getDeclaredClasses()) {
            CHECKS.holds(inside + " is static", Modifier.isStatic(inside.getModifiers()));
            CHECKS.holds(inside + " is not public", !Modifier.isPublic(inside.getModifiers()));
        }
    }

    private static void constants() {
        CHECKS.due("BAD", TalkBus.BAD, -1);
        CHECKS.due("NO", TalkBus.NO, -2);
        CHECKS.due("FULL", TalkBus.FULL, -3);
        CHECKS.due("NONE", TalkBus.NONE, -4);
        int seen = 0;
        for (Field f : TalkBus.class.getDeclaredFields()) {
            if (!Modifier.isPrivate(f.getModifiers())) {
                seen++;
                CHECKS.holds(f + " is a public constant",
                    Modifier.isPublic(f.getModifiers()) && Modifier.isFinal(f.getModifiers()));
            }
            CHECKS.holds(f + " is final, if it is static",
                !Modifier.isStatic(f.getModifiers()) || Modifier.isFinal(f.getModifiers()));
        }
        CHECKS.due("constants", seen, 4);
    }

    private static void newObject() {
        TalkBus x = new TalkBus();
        CHECKS.due("bus(7)", x.bus(7), 6);
        for (int d = 0; d < 6; d++) {
            for (int what = 0; what < 5; what++) {
                CHECKS.due("device(" + d + ", " + what + ")", x.device(d, what), FIRST[d][what]);
            }
            for (int what = 5; what <= 17; what++) {
                int want = what == 11 || what == 12 || what == 14 ? TalkBus.NONE : 0;
                CHECKS.due("device(" + d + ", " + what + ")", x.device(d, what), want);
            }
            CHECKS.due("row(out)", x.row(d, 0, 0), TalkBus.NONE);
            CHECKS.due("row(in)", x.row(d, 1, 0), TalkBus.NONE);
        }
        int[] bus = {TalkBus.NONE, 0, 0, 0, 0, 0, TalkBus.NO, 6, 0};
        for (int what = 0; what < bus.length; what++) {
            CHECKS.due("bus(" + what + ")", x.bus(what), bus[what]);
        }
        for (int what = 0; what < 8; what++) {
            CHECKS.due("sum(" + what + ")", x.sum(what), 0);
        }
        CHECKS.due("log(-1, 0)", x.log(-1, 0), 0);
        CHECKS.due("fault()", x.fault(), TalkBus.NONE);
        CHECKS.due("wipe()", x.wipe(), 0);
    }

    private static void objectsAreApart() {
        TalkBus one = new TalkBus();
        TalkBus other = new TalkBus();
        String before = Checks.stateOf(other);
        Checks.tell(one, "d2,3,31,1,0;");
        Checks.send(one, 36, 41, 8, 73, 17);
        one.put(2, 9);
        one.lay();
        CHECKS.holds("an object does not change another", before.equals(Checks.stateOf(other)));
        CHECKS.holds("a later object is new", before.equals(Checks.stateOf(new TalkBus())));
    }

    private static void rules() throws Exception {
        String code = Files.readString(Path.of("src/main/java/TalkBus.java"))
            .replaceAll("(?s)/\\*.*?\\*/", " ").replaceAll("//[^\n]*", " ");
        String[] words = {"import", "package", "throw", "throws", "try", "catch", "finally",
            "synchronized", "assert", "toString", "hashCode", "System", "Object", "var"};
        for (String word : words) {
            CHECKS.holds("no word " + word,
                !code.matches("(?s).*\\b" + word + "\\b.*"));
        }
        CHECKS.holds("no lambda", !code.contains("->"));
        CHECKS.holds("no method reference", !code.contains("::"));
        CHECKS.holds("only counted loops", !code.contains("while"));
    }
}
