import java.lang.reflect.Array;
import java.lang.reflect.Constructor;
import java.lang.reflect.Field;
import java.lang.reflect.Method;
import java.lang.reflect.Modifier;
import java.nio.file.Files;
import java.nio.file.Path;
import java.util.ArrayDeque;
import java.util.Arrays;
import java.util.Collections;
import java.util.IdentityHashMap;
import java.util.List;
import java.util.NoSuchElementException;
import java.util.Set;
import java.util.TreeSet;

/**
 * The face of the class (the document's members and no others), the rules of LANGUAGE.md that can be seen
 * from outside or by a look at the text, and the room that an object takes. Exit code 1 if something is not as told.
 */
public final class FaceTest {
    private static int wrong;

    private static void need(boolean holds, String what) {
        if (!holds) {
            wrong++;
            System.out.println("face: not so: " + what);
        }
    }

    public static void main(String[] args) throws Exception {
        members();
        insides();
        text();
        room();
        System.out.println(wrong == 0 ? "face: as told" : "face: " + wrong + " things are not as told");
        if (wrong != 0) {
            System.exit(1);
        }
    }

    private static final List<String> METHODS = List.of(
        "int feed(int,int,int,int,int)", "boolean end(int)", "int next(int)", "int party(int)",
        "int owns(int,int,int,int,int)", "int kin(int,int,int,int)", "int post(int,int,int,int)",
        "int gift(int,int,int,int,boolean,int,int)", "boolean worth(int,int,int)", "boolean back(int,int)",
        "boolean tell(int)", "int law(int)", "int fault()", "long part(int,int,int,int)", "int chain(int,int,int,int)",
        "int octet(int) throws", "int head(int,int,int)", "int degree(int,int,int,int)", "int judged(int,int,int) throws",
        "int member(int)", "int matter(int,int)", "int sits(int,int,int)", "int quorum(int,int)", "int entry(int,int,int)",
        "int joined(int)", "int entered(int,int,int) throws", "int vote(int,int,boolean)", "int links(int,int)",
        "long chance(int,int) throws", "int asked(int,int,int)", "int count(int)");

    private static String told(Method method) {
        StringBuilder text = new StringBuilder(method.getReturnType() + " " + method.getName() + "(");
        for (Class<?> type : method.getParameterTypes()) {
            text.append(text.charAt(text.length() - 1) == '(' ? "" : ",").append(type);
        }
        text.append(")");
        if (Arrays.equals(method.getExceptionTypes(), new Class<?>[] {NoSuchElementException.class})) {
            text.append(" throws");
        }
        return text.toString();
    }

    private static void members() throws Exception {
        Class<?> face = GiftRegister.class;
        need(Modifier.isPublic(face.getModifiers()) && Modifier.isFinal(face.getModifiers()), "the class is public and final");
        need(face.getPackageName().isEmpty(), "no package");
        Set<String> due = new TreeSet<>(METHODS);
        for (Method method : face.getDeclaredMethods()) {
            if (Modifier.isPrivate(method.getModifiers())) {
                continue;
            }
            need(Modifier.isPublic(method.getModifiers()) && !Modifier.isStatic(method.getModifiers()), told(method) + " is public, of the object");
            need(due.remove(told(method)), told(method) + " is in the document");
        }
        need(due.isEmpty(), "there are also " + due);
        Constructor<?>[] makers = face.getDeclaredConstructors();
        need(makers.length == 1 && Modifier.isPublic(makers[0].getModifiers()) && makers[0].getParameterCount() == 0, "one public constructor");
        for (Field field : face.getDeclaredFields()) {
            boolean isNone = field.getName().equals("NONE");
            need(isNone ? Modifier.isPublic(field.getModifiers()) : Modifier.isPrivate(field.getModifiers()), "field " + field.getName());
        }
        need(GiftRegister.NONE == -1, "NONE is -1");
    }

    private static void insides() {
        Set<String> publicNames = new TreeSet<>();
        METHODS.forEach(told -> publicNames.add(told.substring(told.indexOf(' ') + 1, told.indexOf('('))));
        Class<?>[] inside = GiftRegister.class.getDeclaredClasses();
        need(inside.length + 1 <= 12, "some twelve classes");
        for (Class<?> one : inside) {
            need(Modifier.isStatic(one.getModifiers()) && !Modifier.isPublic(one.getModifiers()), one + " is static and hidden");
            need(one.getDeclaredClasses().length == 0, one + " holds no class");
            look(one, publicNames);
        }
        look(GiftRegister.class, publicNames);
    }

    private static void look(Class<?> one, Set<String> publicNames) {
        int fields = 0;
        for (Field field : one.getDeclaredFields()) {
            boolean isStatic = Modifier.isStatic(field.getModifiers());
            need(!isStatic || Modifier.isFinal(field.getModifiers()), one + "." + field.getName() + " is final");
            fields += isStatic ? 0 : 1;
        }
        need(fields <= 20, one + " has some twenty fields");
        for (Method method : one.getDeclaredMethods()) {
            need(method.getParameterCount() <= 7, told(method) + " takes at most seven");
            need(Modifier.isPublic(method.getModifiers()) && one == GiftRegister.class || !publicNames.contains(method.getName()),
                one + "." + method.getName() + " does not bear a public name");
        }
    }

    private static void text() throws Exception {
        String source = Files.readString(Path.of("src/main/java/GiftRegister.java"));
        need(source.chars().allMatch(c -> c == '\n' || c >= 32 && c < 127), "plain signs alone");
        for (String line : source.split("\n")) {
            if (line.startsWith("import ")) {
                need(List.of("import java.util.Arrays;", "import java.util.NoSuchElementException;").contains(line), line);
            }
        }
        String bare = source.replaceAll("(?s)/\\*.*?\\*/", "").replaceAll("//[^\n]*", "").replaceAll("\"[^\"\n]*\"", "\"\"");
        for (String word : List.of("->", "::", "finally", "synchronized", "assert", "instanceof", "catch", "try", "Exact(", "Random",
            "Thread", "System.out", "System.err", "System.current", "System.nano", "hashCode", "toString", "Object", "Integer.", "static {")) {
            boolean isWord = word.chars().allMatch(Character::isLetter);
            need(isWord ? !bare.matches("(?s).*\\b" + word + "\\b.*") : !bare.contains(word), "no " + word);
        }
        need(!bare.matches("(?s).*\"\" *\\+.*"), "no text joined by +");
        int begin = 0;
        String[] lines = source.split("\n");
        for (int i = 0; i < lines.length; i++) {
            if (lines[i].matches(" {4,8}[a-z].*[a-zA-Z]+\\(.*\\{")) {
                begin = i;
            }
            if (lines[i].matches(" {4,8}\\}") && begin > 0) {
                need(i - begin < 62 || lines[i].matches(" {4}\\}") && lines[begin].startsWith("        "), "a short method at line " + (begin + 1));
                begin = 0;
            }
        }
    }

    /** Fields and elements of all that hangs on the object. */
    private static int[] roomOf(Object root) throws Exception {
        Set<Object> seen = Collections.newSetFromMap(new IdentityHashMap<>());
        ArrayDeque<Object> open = new ArrayDeque<>();
        open.add(root);
        int elements = 0;
        while (!open.isEmpty()) {
            Object one = open.poll();
            if (!seen.add(one)) {
                continue;
            }
            if (one.getClass().isArray()) {
                elements += Array.getLength(one);
                for (int i = 0; !one.getClass().getComponentType().isPrimitive() && i < Array.getLength(one); i++) {
                    open.add(Array.get(one, i));
                }
                continue;
            }
            for (Field field : one.getClass().getDeclaredFields()) {
                if (!Modifier.isStatic(field.getModifiers())) {
                    elements++;
                    field.setAccessible(true);
                    if (!field.getType().isPrimitive() && field.get(one) != null) {
                        open.add(field.get(one));
                    }
                }
            }
        }
        return new int[] {seen.size(), elements};
    }

    private static void room() throws Exception {
        GiftRegister r = new GiftRegister();
        int[] ahead = roomOf(r);
        // A run may make as many objects as it has calls.
        need(ahead[0] * 512 < 600000, "objects: " + ahead[0]);
        need(ahead[1] * 512 < 7300000, "fields and elements: " + ahead[1]);
        for (int i = 0; i < 30; i++) {
            r.feed('a' << 24, 0, 0, 0, 0);
            r.end(1);
            r.party(i % 3);
            r.owns(i, i - 1, 6000, 0, -1);
            r.gift(i, 0, 0, i, true, 0, i);
            r.tell(i);
            r.member(i);
            r.matter(i, i);
            r.vote(i, 0, true);
            r.joined(i);
            r.head(i, i, i);
            r.part(0, i, i, i);
            r.quorum(i, i);
        }
        need(Arrays.equals(ahead, roomOf(r)), "no call makes what stays");
    }
}
