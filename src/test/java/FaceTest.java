import java.io.IOException;
import java.lang.reflect.Constructor;
import java.lang.reflect.Field;
import java.lang.reflect.Method;
import java.lang.reflect.Modifier;
import java.nio.file.Files;
import java.nio.file.Path;
import java.util.ArrayList;
import java.util.Arrays;
import java.util.Collections;
import java.util.List;
import java.util.regex.Matcher;
import java.util.regex.Pattern;

/** The face of the document, and what LANGUAGE.md rules out and a scan can see. */
public final class FaceTest {
    private static final String[] FACE = {
        "int append(int) IllegalArgumentException IllegalStateException",
        "int bound(int,int) IndexOutOfBoundsException IllegalArgumentException",
        "int choice(int,int,int) IndexOutOfBoundsException IllegalArgumentException",
        "int clearBuffer()",
        "int count(int) IllegalArgumentException",
        "int dearest()",
        "long digest()",
        "int distance(int,int,int) IndexOutOfBoundsException IllegalArgumentException",
        "int exit(int,int) IndexOutOfBoundsException IllegalStateException",
        "int exitOf(int,int) IndexOutOfBoundsException IllegalArgumentException",
        "int firstError()",
        "int goBack(int) IllegalArgumentException IllegalStateException",
        "double hotShare()",
        "int idle(int,int) IndexOutOfBoundsException IllegalArgumentException",
        "int ifRoad(int,int,int) IndexOutOfBoundsException IllegalArgumentException",
        "int keep(int) IllegalArgumentException",
        "int neighbourOf(int,int) IndexOutOfBoundsException IllegalArgumentException",
        "int offer(int,int,int) IndexOutOfBoundsException IllegalArgumentException",
        "int road(int,int,int) IndexOutOfBoundsException IllegalArgumentException",
        "int roadOf(int,int) IndexOutOfBoundsException",
        "int run() IllegalArgumentException",
        "int send(int,int) IndexOutOfBoundsException IllegalStateException",
        "int set(int,int) IndexOutOfBoundsException IllegalArgumentException",
        "int settle()",
        "int turn(int) IndexOutOfBoundsException",
        "int undo() IllegalStateException",
        "int why(int,int,int) IndexOutOfBoundsException",
    };

    private static final String[] RULED_OUT = {
        "import ", "package ", "catch", "finally", "try ", "->", "::", "synchronized", "assert", "instanceof",
        "Exact(", "Double.", "System.out", "System.nano", "System.current", "Random", "Thread", "static {"};

    private static final List<String> LIBRARY = Arrays.asList("Math.min", "Math.max", "System.arraycopy");
    private static final Pattern NAME_OF_LIBRARY = Pattern.compile("\\b[A-Z]\\w*\\.[a-z]\\w*(?=\\()");
    private static final Pattern MADE = Pattern.compile("\\bnew ([A-Za-z]+)");
    private static final Pattern METHOD = Pattern.compile("( +)[\\w\\[\\] ]+\\(.*\\).* \\{");
    private static final int MOST_LINES = 60;

    public static void main(String[] args) throws IOException {
        methods();
        membersAreHidden();
        noPrivateMethodBearsAPublicName();
        inside();
        String source = Files.readString(Path.of("src/main/java/LoafExits.java"));
        ruledOut(source);
        library(source);
        made(source);
        lengths(source);
        Check.end("FaceTest");
    }

    private static void methods() {
        List<String> told = new ArrayList<>();
        for (Method m : LoafExits.class.getDeclaredMethods()) {
            if (!Modifier.isPrivate(m.getModifiers())) {
                Check.isTrue("public: " + m, Modifier.isPublic(m.getModifiers()) && !Modifier.isStatic(m.getModifiers()));
                told.add(tell(m));
            }
        }
        List<String> due = new ArrayList<>(Arrays.asList(FACE));
        Collections.sort(due);
        Collections.sort(told);
        Check.isText("the face", told.toString(), due.toString());
    }

    private static String tell(Method m) {
        StringBuilder told = new StringBuilder();
        told.append(m.getReturnType().getSimpleName()).append(' ').append(m.getName()).append('(');
        for (int k = 0; k < m.getParameterCount(); k++) {
            told.append(k == 0 ? "" : ",").append(m.getParameterTypes()[k].getSimpleName());
        }
        told.append(')');
        for (Class<?> e : m.getExceptionTypes()) {
            told.append(' ').append(e.getSimpleName());
        }
        return told.toString();
    }

    private static void membersAreHidden() {
        Check.isTrue("final", Modifier.isFinal(LoafExits.class.getModifiers()));
        Constructor<?>[] made = LoafExits.class.getDeclaredConstructors();
        Check.is("one constructor", made.length, 1);
        Check.isTrue("public without parameters", Modifier.isPublic(made[0].getModifiers()) && made[0].getParameterCount() == 0);
        for (Field f : LoafExits.class.getDeclaredFields()) {
            boolean shown = f.getName().equals("NONE");
            Check.isTrue("field " + f, shown ? Modifier.isPublic(f.getModifiers()) : Modifier.isPrivate(f.getModifiers()));
            constantOrOwn(f);
        }
    }

    private static void constantOrOwn(Field f) {
        boolean own = !Modifier.isStatic(f.getModifiers());
        boolean plain = Arrays.asList("int", "long", "boolean", "char", "String").contains(f.getType().getSimpleName());
        Check.isTrue("neither a constant nor an object's own: " + f, own || Modifier.isFinal(f.getModifiers()) && plain);
    }

    private static void noPrivateMethodBearsAPublicName() {
        List<String> names = new ArrayList<>();
        for (String told : FACE) {
            names.add(told.substring(told.indexOf(' ') + 1, told.indexOf('(')));
        }
        List<Method> others = new ArrayList<>();
        for (Method m : LoafExits.class.getDeclaredMethods()) {
            if (Modifier.isPrivate(m.getModifiers())) {
                others.add(m);
            }
        }
        for (Class<?> c : LoafExits.class.getDeclaredClasses()) {
            others.addAll(Arrays.asList(c.getDeclaredMethods()));
        }
        for (Method m : others) {
            Check.isTrue("a name of the face: " + m, !names.contains(m.getName()));
            Check.isTrue("seven parameters at most: " + m, m.getParameterCount() <= 7);
        }
    }

    private static void inside() {
        Class<?>[] inside = LoafExits.class.getDeclaredClasses();
        Check.isTrue("twelve classes at most", inside.length <= 12);
        for (Class<?> c : inside) {
            Check.isTrue("static: " + c, Modifier.isStatic(c.getModifiers()));
            Check.isTrue("not shown: " + c, !Modifier.isPublic(c.getModifiers()) && !Modifier.isProtected(c.getModifiers()));
            int fields = 0;
            for (Field f : c.getDeclaredFields()) {
                fields += Modifier.isStatic(f.getModifiers()) ? 0 : 1;
                constantOrOwn(f);
            }
            Check.isTrue("twenty fields at most: " + c, fields <= 20);
        }
    }

    private static void ruledOut(String source) {
        for (String word : RULED_OUT) {
            Check.isTrue("the source has " + word, !source.contains(word));
        }
    }

    private static void library(String source) {
        Matcher name = NAME_OF_LIBRARY.matcher(source);
        while (name.find()) {
            Check.isTrue("the source has " + name.group(), LIBRARY.contains(name.group()));
        }
    }

    /** Exceptions, rows of numbers, and objects of the classes inside; nothing else is made. */
    private static void made(String source) {
        List<String> may = new ArrayList<>(Arrays.asList("int", "boolean"));
        for (Class<?> e : new Class<?>[] {IndexOutOfBoundsException.class, IllegalArgumentException.class, IllegalStateException.class}) {
            may.add(e.getSimpleName());
        }
        for (Class<?> c : LoafExits.class.getDeclaredClasses()) {
            may.add(c.getSimpleName());
        }
        Matcher made = MADE.matcher(source);
        while (made.find()) {
            Check.isTrue("the source makes a " + made.group(1), may.contains(made.group(1)));
        }
    }

    /** A method ends with the next brace that stands as far in as its first line. */
    private static void lengths(String source) {
        String[] lines = source.split("\n");
        int methods = 0;
        for (int first = 0; first < lines.length; first++) {
            Matcher method = METHOD.matcher(lines[first]);
            if (method.matches() && (method.group(1).length() == 4 || method.group(1).length() == 8)) {
                int last = first;
                while (last + 1 < lines.length && !lines[last].equals(method.group(1) + "}")) {
                    last++;
                }
                methods++;
                Check.isTrue("lines: " + lines[first].trim(), last - first < MOST_LINES);
            }
        }
        Check.isTrue("methods are found", methods > 100);
    }
}
