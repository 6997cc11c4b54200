import java.io.IOException;
import java.lang.reflect.Constructor;
import java.lang.reflect.Field;
import java.lang.reflect.Member;
import java.lang.reflect.Method;
import java.lang.reflect.Modifier;
import java.nio.file.Files;
import java.nio.file.Path;
import java.util.ArrayList;
import java.util.List;
import java.util.Set;
import java.util.TreeSet;

/** The public face: the document's members with their exceptions, and no others; the constants. */
public final class FaceTest {
    private static final String I = "IndexOutOfBoundsException";
    private static final String A = "IllegalArgumentException";
    private static final String S = "IllegalStateException";

    private static final String[] METHODS = {
        "int scene(int, int, boolean, boolean, int) " + I + " " + A + " " + S,
        "int lock() " + S,
        "int omit(int) " + I + " " + S,
        "int label(int) " + I,
        "int needs(int, int) " + I + " " + A,
        "int look(int, int, boolean, int) " + I + " " + A,
        "boolean clashes(int) " + I,
        "int bind(int, int) " + I + " " + S,
        "int person(int, int, int, boolean) " + A + " " + S,
        "int ill(int, int, boolean) " + I,
        "int place(int) " + A + " " + S,
        "int permit(int, int, boolean) " + I,
        "int move(int, int, int) " + I + " " + A,
        "void light(int, int, int, int) " + I + " " + A,
        "int put(int, int, int) " + I + " " + S,
        "int take(int) " + I + " " + S,
        "int fill()",
        "int mend(int) " + I + " " + S,
        "int strip(int, int) " + I,
        "int ofScene(int, int) " + I + " " + A,
        "int call(int, int, boolean) " + I,
        "int shoot(int, int) " + I + " " + A + " " + S,
        "int lose(int) " + I + " " + S,
        "int next() " + S,
        "int pay(int, boolean) " + I,
        "int cost()",
    };

    public static void main(String[] args) throws IOException {
        constants();
        methods();
        document();
        othersAreHidden();
        ownClasses();
        Check.end("FaceTest");
    }

    private static void constants() {
        Check.due("NONE", Stripboard.NONE, -1);
        Check.due("BY_DAY", Stripboard.BY_DAY, 0);
        Check.due("BY_WEEK", Stripboard.BY_WEEK, 1);
        Check.due("FOR_RUN", Stripboard.FOR_RUN, 2);
        Check.due("OPEN", Stripboard.OPEN, 0);
        Check.due("PLACED", Stripboard.PLACED, 1);
        Check.due("SHOT", Stripboard.SHOT, 2);
        Check.due("OWED", Stripboard.OWED, 3);
        Check.due("OMITTED", Stripboard.OMITTED, 4);
        int count = 0;
        for (Field field : Stripboard.class.getDeclaredFields()) {
            if (Modifier.isPublic(field.getModifiers())) count++;
        }
        Check.due("public fields", count, 9);
        Check.due("public and final", Stripboard.class.getModifiers(), Modifier.PUBLIC | Modifier.FINAL);
    }

    private static void methods() {
        Set<String> due = new TreeSet<>(List.of(METHODS));
        Set<String> got = new TreeSet<>();
        for (Method method : Stripboard.class.getDeclaredMethods()) {
            if (Modifier.isPublic(method.getModifiers())) got.add(told(method));
        }
        for (String one : due) {
            if (!got.contains(one)) Check.fail("not there: " + one);
        }
        for (String one : got) {
            if (!due.contains(one)) Check.fail("not of the document: " + one);
        }
        Check.due("methods", got.size(), 26);
    }

    private static String told(Method method) {
        List<String> kinds = new ArrayList<>();
        for (Class<?> kind : method.getParameterTypes()) kinds.add(kind.getName());
        StringBuilder text = new StringBuilder(method.getReturnType().getName());
        text.append(' ').append(method.getName()).append('(').append(String.join(", ", kinds)).append(')');
        for (Class<?> kind : method.getExceptionTypes()) text.append(' ').append(kind.getSimpleName());
        return text.toString();
    }

    /** Each line of the document's face stands in the program, word by word, and in its order; so do its headings. */
    private static void document() throws IOException {
        String program = plain(Files.readString(Path.of("src/main/java/Stripboard.java")));
        String document = Files.readString(Path.of("../shared/DOC.md"));
        int begin = document.indexOf("```java\n") + 8;
        int from = 0;
        int members = 0;
        for (String line : document.substring(begin, document.indexOf("```", begin)).split("\n")) {
            String member = plain(line);
            if (member.equals("}")) continue;
            String due = member.endsWith(");") || member.contains(") throws ")
                    ? member.replaceAll(";$", " {") : member;
            int at = program.indexOf(due, from);
            Check.due("the program has, behind what is ahead of it in the document: " + due, at >= 0, true);
            if (at >= 0) from = at + due.length();
            members++;
        }
        Check.due("lines of the face", members, 31);
        headings(program, document);
    }

    /** "Ahead of the calls .. the interface says: ---- .." */
    private static void headings(String program, String document) {
        int found = 0;
        for (String line : document.split("\n")) {
            if (!line.startsWith("Ahead of the calls `")) continue;
            String first = line.substring(line.indexOf('`') + 1, line.indexOf('`', line.indexOf('`') + 1));
            String heading = line.substring(line.indexOf("----"), line.length() - 1);
            int at = program.indexOf("// " + heading + " /**");
            int call = program.indexOf(" " + first + "(", Math.max(at, 0));
            Check.due("ahead of " + first + ": " + heading, at >= 0 && call > at && call - at < 200, true);
            found++;
        }
        Check.due("headings", found, 4);
    }

    private static String plain(String text) {
        return text.replaceAll("\\s+", " ").trim();
    }

    private static void othersAreHidden() {
        List<Member> members = new ArrayList<>(List.of(Stripboard.class.getDeclaredFields()));
        members.addAll(List.of(Stripboard.class.getDeclaredMethods()));
        for (Member member : members) {
            int modifiers = member.getModifiers();
            boolean hidden = Modifier.isPrivate(modifiers) || Modifier.isPublic(modifiers) || member.isSynthetic();
            Check.due(member.getName() + " is hidden", hidden, true);
        }
        Constructor<?>[] constructors = Stripboard.class.getDeclaredConstructors();
        Check.due("constructors", constructors.length, 1);
        Check.due("of nothing", constructors[0].getParameterCount(), 0);
        Check.due("public", Modifier.isPublic(constructors[0].getModifiers()), true);
    }

    /** LANGUAGE.md on classes inside, static fields, names of methods, parameters and fields. */
    private static void ownClasses() {
        List<Class<?>> classes = new ArrayList<>(List.of(Stripboard.class.getDeclaredClasses()));
        Check.due("twelve classes at most", classes.size() + 1 <= 12, true);
        Set<String> face = new TreeSet<>();
        for (String method : METHODS) face.add(method.substring(method.indexOf(' ') + 1, method.indexOf('(')));
        for (Class<?> inside : classes) {
            Check.due(inside + " is static", Modifier.isStatic(inside.getModifiers()), true);
            Check.due(inside + " is not public", Modifier.isPublic(inside.getModifiers()), false);
        }
        classes.add(Stripboard.class);
        for (Class<?> one : classes) {
            int fields = 0;
            for (Field field : one.getDeclaredFields()) {
                boolean still = Modifier.isStatic(field.getModifiers());
                if (still) Check.due(field + " is final", Modifier.isFinal(field.getModifiers()), true);
                else fields++;
            }
            Check.due(one + " has twenty fields at most", fields <= 20, true);
            for (Method method : one.getDeclaredMethods()) {
                Check.due(method + " has seven parameters at most", method.getParameterCount() <= 7, true);
                boolean open = one == Stripboard.class && Modifier.isPublic(method.getModifiers());
                if (!open) Check.due(method + " has a name of its own", face.contains(method.getName()), false);
            }
        }
    }
}
