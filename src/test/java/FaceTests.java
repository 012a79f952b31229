import java.io.IOException;
import java.lang.reflect.Constructor;
import java.lang.reflect.Field;
import java.lang.reflect.Member;
import java.lang.reflect.Method;
import java.lang.reflect.Modifier;
import java.nio.file.Files;
import java.nio.file.Path;
import java.util.ArrayList;
import java.util.List;
import java.util.Set;
import java.util.TreeSet;
import java.util.regex.Matcher;
import java.util.regex.Pattern;

/** The public face is the document's and no more, and the source keeps to LANGUAGE.md's words. */
public final class FaceTests extends Checks {
    private static final Path SOURCE = Path.of("src/main/java/SortedTables.java");
    private static final Path DOCUMENT = Path.of("../shared/DOC.md");
    private static final String[] RULED_OUT = {"\\bimport\\b", "\\bpackage\\b", "\\bfinally\\b",
        "\\bcatch\\b", "\\bsynchronized\\b", "\\bassert\\b", "->", "::", "\\bprotected\\b",
        "\\bRandom\\b", "\\bThread\\b", "System\\.(?!arraycopy)", "Exact\\(", "\\bstatic \\{",
        "\\[\\]\\[\\]\\[\\]", "\\bvar\\b", "\\b(Integer|Long|Math)\\.[A-Z]",
        "\\bthis\\s*[,)]"};
    /** A field's first value that is made out of other fields would hand these out. */
    private static final Pattern HANDED_OUT =
            Pattern.compile("private final \\w+ \\w+ = new \\w+\\([^)]");

    public static void main(String[] args) throws IOException {
        compareFace();
        lookAtMembers();
        lookAtNames();
        lookAtSource();
        endWith("the face is the document's");
    }

    // ---- the face

    /** Both sides are written as the document writes them, less the names of the arguments. */
    private static void compareFace() throws IOException {
        Set<String> due = documentFace();
        Set<String> got = new TreeSet<>();
        for (Method m : SortedTables.class.getDeclaredMethods()) {
            if (Modifier.isPublic(m.getModifiers())) {
                got.add(write(m));
            }
        }
        for (Constructor<?> c : SortedTables.class.getDeclaredConstructors()) {
            got.add("SortedTables(" + write(c.getParameterTypes()) + ")");
        }
        for (String face : due) {
            if (!got.contains(face)) {
                fault("missing: " + face);
            }
        }
        for (String face : got) {
            if (!due.contains(face)) {
                fault("not in the document: " + face);
            }
        }
        if (due.size() != 34) {
            fault("the document's face has " + due.size() + " lines, due are 34");
        }
    }

    private static Set<String> documentFace() throws IOException {
        Set<String> face = new TreeSet<>();
        Pattern line = Pattern.compile("^    public (.*?)\\((.*?)\\)(.*);$", Pattern.MULTILINE);
        Matcher found = line.matcher(Files.readString(DOCUMENT));
        while (found.find()) {
            List<String> types = new ArrayList<>();
            for (String argument : found.group(2).split(", ")) {
                types.add(argument.split(" ")[0]);
            }
            face.add(found.group(1) + "(" + String.join(", ", types) + ")" + found.group(3));
        }
        return face;
    }

    private static String write(Method m) {
        String thrown = write(m.getExceptionTypes());
        return m.getReturnType().getSimpleName() + " " + m.getName() + "("
                + write(m.getParameterTypes()) + ")" + (thrown.isEmpty() ? "" : " throws " + thrown);
    }

    private static String write(Class<?>[] types) {
        List<String> names = new ArrayList<>();
        for (Class<?> type : types) {
            names.add(type.getSimpleName());
        }
        return String.join(", ", names);
    }

    // ---- rules 1, 5 and 11

    private static void lookAtMembers() {
        int modifiers = SortedTables.class.getModifiers();
        if (!Modifier.isPublic(modifiers) || !Modifier.isFinal(modifiers)) {
            fault("the class is not public and final");
        }
        for (Field f : SortedTables.class.getDeclaredFields()) {
            boolean isNone = f.getName().equals("NONE") && Modifier.isPublic(f.getModifiers());
            if (!isNone && !Modifier.isPrivate(f.getModifiers())) {
                fault("field " + f.getName() + " is not private");
            }
        }
        for (Method m : SortedTables.class.getDeclaredMethods()) {
            if (!Modifier.isPublic(m.getModifiers()) && !Modifier.isPrivate(m.getModifiers())) {
                fault("method " + m.getName() + " is neither public nor private");
            }
        }
        Class<?>[] inside = SortedTables.class.getDeclaredClasses();
        if (inside.length > 12) {
            fault("more than twelve classes");
        }
        for (Class<?> c : inside) {
            if (!Modifier.isStatic(c.getModifiers()) || Modifier.isPublic(c.getModifiers())) {
                fault("class " + c.getName() + " is not static or is public");
            }
            lookAtStatics(c);
        }
        lookAtStatics(SortedTables.class);
    }

    private static void lookAtStatics(Class<?> c) {
        for (Field f : c.getDeclaredFields()) {
            if (Modifier.isStatic(f.getModifiers()) && !Modifier.isFinal(f.getModifiers())) {
                fault("static field " + f.getName() + " is not final");
            }
        }
        for (Method m : c.getDeclaredMethods()) {
            if (m.getParameterCount() > 7) {
                fault("method " + m.getName() + " has more than seven parameters");
            }
        }
    }

    private static void lookAtNames() {
        Set<String> face = new TreeSet<>();
        List<Member> others = new ArrayList<>();
        for (Method m : SortedTables.class.getDeclaredMethods()) {
            if (Modifier.isPublic(m.getModifiers())) {
                face.add(m.getName());
            } else {
                others.add(m);
            }
        }
        for (Class<?> c : SortedTables.class.getDeclaredClasses()) {
            others.addAll(List.of(c.getDeclaredMethods()));
        }
        for (Member m : others) {
            if (face.contains(m.getName())) {
                fault("a method that is not public has the name " + m.getName());
            }
        }
    }

    // ---- rules 2, 4, 5, 6 and 12

    private static void lookAtSource() throws IOException {
        String source = Files.readString(SOURCE);
        String code = source.replaceAll("(?s)/\\*.*?\\*/", "").replaceAll("//[^\n]*", "");
        for (String word : RULED_OUT) {
            if (Pattern.compile(word).matcher(code).find()) {
                fault("the source has " + word);
            }
        }
        if (HANDED_OUT.matcher(code).find()) {
            fault("a constructor hands out what the object is made of");
        }
        if (!source.chars().allMatch(c -> c < 128)) {
            fault("the source has a sign beyond 127");
        }
    }
}
