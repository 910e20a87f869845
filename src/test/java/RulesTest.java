import java.io.IOException;
import java.lang.management.ManagementFactory;
import java.lang.reflect.Field;
import java.lang.reflect.Method;
import java.lang.reflect.Modifier;
import java.nio.file.Files;
import java.nio.file.Path;
import java.util.Arrays;
import java.util.HashSet;
import java.util.Set;
import java.util.TreeSet;
import java.util.regex.Matcher;
import java.util.regex.Pattern;

/** The face of the class, the rules of the language that can be looked up, and what calls make. */
public final class RulesTest {
    private static final Due DUE = new Due();
    private static final String[] FACE = {
        "int type(int,int)", "int wipe(int)", "int undo(int)", "int fault(int)", "int stone(int)",
        "int member(int,int)", "int event(int,int,int)", "int back()", "int read(int)", "int damp(int,int,int)",
        "int at(int,int,int)", "int house(int,int)", "int governments()", "int carried()", "int crowd(int)",
        "int orator()", "int still()", "int seat(int,int)", "int dust(int,int)", "int boy(int)", "int calm(int)",
        "int seen(int,int,int)", "int forget()", "int never()", "int sort(int)", "int wet(int)", "int ask(int)",
        "long chance(int,int,int)", "int ages(int,int,int)", "int sheet(int,int,int)", "int lose(int)",
        "int put(int,int,int,int)", "int get(int,int,int)", "int copy(int,int,int,int,int)",
        "int write(int,int)", "int count(int)", "long digest()"};
    private static final String[] FORBIDDEN = {"throw", "throws", "try", "catch", "finally", "synchronized",
        "assert", "import", "package", "->", "::", "@", "protected", "Exact", "Object", "MIN_VALUE", "MAX_VALUE",
        "hashCode", "toString", "Exception", "Error", "double", "float"};

    private RulesTest() {
    }

    public static void main(String[] args) throws IOException {
        face();
        constants();
        source();
        callsMakeNothing();
        DUE.end();
    }

    private static String signature(Method m) {
        StringBuilder text = new StringBuilder(m.getReturnType() + " " + m.getName() + "(");
        Class<?>[] types = m.getParameterTypes();
        for (int i = 0; i < types.length; i++) {
            text.append(i > 0 ? "," : "").append(types[i].getSimpleName());
        }
        return text.append(")").toString();
    }

    private static void face() {
        Set<String> want = new TreeSet<>(Arrays.asList(FACE));
        Set<String> got = new TreeSet<>();
        Set<String> names = new HashSet<>();
        for (Method m : WoodliceSenate.class.getDeclaredMethods()) {
            if (!Modifier.isPrivate(m.getModifiers())) {
                got.add(signature(m));
                names.add(m.getName());
            }
        }
        DUE.isTrue("the face is " + got, got.equals(want));
        for (Method m : WoodliceSenate.class.getDeclaredMethods()) {
            DUE.isTrue("a private method bears the name of a public one: " + m.getName(),
                    !Modifier.isPrivate(m.getModifiers()) || !names.contains(m.getName()));
        }
        for (Class<?> inside : WoodliceSenate.class.getDeclaredClasses()) {
            int modifiers = inside.getModifiers();
            DUE.isTrue(inside + " is static and private",
                    Modifier.isStatic(modifiers) && Modifier.isPrivate(modifiers));
            for (Method m : inside.getDeclaredMethods()) {
                DUE.isTrue("a method inside bears the name of a public one: " + m.getName(),
                        !names.contains(m.getName()));
            }
        }
        DUE.isTrue("twelve classes at most", WoodliceSenate.class.getDeclaredClasses().length < 12);
        DUE.is("constructors", WoodliceSenate.class.getDeclaredConstructors().length, 1);
        DUE.isTrue("final", Modifier.isFinal(WoodliceSenate.class.getModifiers()));
    }

    private static void constants() {
        DUE.is("NONE", WoodliceSenate.NONE, -1);
        DUE.is("BAD", WoodliceSenate.BAD, -2);
        DUE.is("NOT", WoodliceSenate.NOT, -3);
        DUE.is("FULL", WoodliceSenate.FULL, -4);
        int open = 0;
        for (Field f : WoodliceSenate.class.getDeclaredFields()) {
            open += Modifier.isPrivate(f.getModifiers()) ? 0 : 1;
            DUE.isTrue(f.getName() + ": a static field is final",
                    !Modifier.isStatic(f.getModifiers()) || Modifier.isFinal(f.getModifiers()));
        }
        DUE.is("fields that are not private", open, 4);
    }

    private static void source() throws IOException {
        String text = Files.readString(Path.of("src/main/java/WoodliceSenate.java"));
        String code = text.replaceAll("(?s)/\\*.*?\\*/", " ").replaceAll("//[^\n]*", " ");
        for (String word : FORBIDDEN) {
            boolean isWord = Character.isLetter(word.charAt(0));
            Matcher found = Pattern.compile(isWord ? "\\b" + word + "\\b" : Pattern.quote(word)).matcher(code);
            DUE.isTrue("the class keeps without " + word, !found.find());
        }
        DUE.isTrue("signs 1 to 127", text.chars().allMatch(c -> c > 0 && c < 128));
    }

    /** All rows are made in the constructor: 512 calls afterwards make no object and no array. */
    private static void callsMakeNothing() {
        com.sun.management.ThreadMXBean bean =
                (com.sun.management.ThreadMXBean) ManagementFactory.getThreadMXBean();
        long least = Long.MAX_VALUE;
        for (int round = 0; round < 3; round++) {
            WoodliceSenate x = Told.of("0123", "pau;gbu;ocd;pdu", Told.PEPPER, 2, 1, Told.LIFT, 3, 0);
            long before = bean.getThreadAllocatedBytes(Thread.currentThread().getId());
            for (int n = 0; n < 40; n++) {
                x.sheet(n % 4, n % 3, 60);
                x.write(n % 20, n % 4);
                x.copy(n % 4, 0, n % 4, 5, 50);
                x.read(n % 4);
                x.type(1, ';');
                x.undo(1);
                x.back();
                x.seen(0, 0, 1);
                x.digest();
            }
            least = Math.min(least, bean.getThreadAllocatedBytes(Thread.currentThread().getId()) - before);
        }
        DUE.isTrue("calls made " + least + " bytes", least < 2000);
    }
}
