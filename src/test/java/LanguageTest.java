import java.io.IOException;
import java.lang.reflect.Field;
import java.lang.reflect.Method;
import java.lang.reflect.Modifier;
import java.nio.file.Files;
import java.nio.file.Path;
import java.util.Set;
import java.util.TreeSet;
import java.util.regex.Matcher;
import java.util.regex.Pattern;

/** The face of the document, and those rules of the language that can be seen from outside. */
public final class LanguageTest {
    private static final Set<String> FACE = Set.of(
            "int panel(int,int)", "int bound(int,int)", "int set(int,int,int)", "int press(int,int,int)", "int wipe()",
            "int lose(int)", "int frame(int)", "int drift(int,int)", "int told(int)", "int cell(int,int,int)",
            "int contact(int,int)", "int track(int,int)", "int named(int)", "int paired(int)", "int rule(int,int,int,int)",
            "long ghosts(int,int,int)", "long digest()", "int keep(int)", "int goBack(int)");
    private static final String[] FORBIDDEN = {"throw", "throws", "try", "catch", "finally", "synchronized", "assert", "protected",
        "package", "\\w*Exact", "Random", "Thread", "Object", "->", "::", "@"};

    public static void main(String[] args) throws IOException {
        constants();
        face();
        nested();
        text();
        Due.end();
    }

    private static void constants() {
        Due.due("NONE", TouchPanel.NONE, -1);
        Due.due("UNKNOWN", TouchPanel.UNKNOWN, -1000000001);
        Due.due("OUTSIDE", TouchPanel.OUTSIDE, -1000000002);
        Due.due("NOT", TouchPanel.NOT, -1000000003);
        Due.due("FULL", TouchPanel.FULL, -1000000004);
        Set<String> names = new TreeSet<>();
        for (Field field : TouchPanel.class.getDeclaredFields()) {
            if (!Modifier.isPrivate(field.getModifiers())) {
                names.add(field.getName());
            }
            holdsOfStatic(field);
        }
        Due.holds("the constants are those of the document: " + names, names.equals(Set.of("NONE", "UNKNOWN", "OUTSIDE", "NOT", "FULL")));
    }

    private static void holdsOfStatic(Field field) {
        if (Modifier.isStatic(field.getModifiers())) {
            Due.holds(field.getName() + " is final", Modifier.isFinal(field.getModifiers()));
        }
    }

    private static void face() {
        Due.holds("the class is public and final", Modifier.toString(TouchPanel.class.getModifiers()).equals("public final"));
        Due.due("constructors", TouchPanel.class.getDeclaredConstructors().length, 1);
        Set<String> face = new TreeSet<>();
        for (Method method : TouchPanel.class.getDeclaredMethods()) {
            if (!Modifier.isPrivate(method.getModifiers())) {
                face.add(method.toString().replace("public ", "").replace("TouchPanel.", ""));
            }
        }
        Due.holds("the face is that of the document: " + face, face.equals(FACE));
    }

    private static void nested() {
        Set<String> names = new TreeSet<>();
        for (Method method : TouchPanel.class.getMethods()) {
            names.add(method.getName());
        }
        checkMethods(TouchPanel.class, names);
        Due.holds("there are twelve classes at most", TouchPanel.class.getDeclaredClasses().length < 12);
        for (Class<?> inside : TouchPanel.class.getDeclaredClasses()) {
            int modifiers = inside.getModifiers();
            Due.holds(inside + " is private and static", Modifier.isPrivate(modifiers) && Modifier.isStatic(modifiers));
            Due.holds(inside + " has twenty fields at most", inside.getDeclaredFields().length <= 20);
            for (Field field : inside.getDeclaredFields()) {
                holdsOfStatic(field);
            }
            checkMethods(inside, names);
        }
    }

    private static void checkMethods(Class<?> type, Set<String> faceNames) {
        for (Method method : type.getDeclaredMethods()) {
            Due.holds(method + " has seven parameters at most", method.getParameterCount() <= 7);
            boolean isFace = type == TouchPanel.class && Modifier.isPublic(method.getModifiers());
            Due.holds(method + " bears a name of its own", isFace || !faceNames.contains(method.getName()));
        }
    }

    private static void text() throws IOException {
        String source = Files.readString(Path.of(System.getProperty("touchpanel.source")));
        String code = source.replaceAll("(?s)/\\*.*?\\*/", "").replaceAll("//[^\\n]*", "");
        for (String word : FORBIDDEN) {
            boolean plain = Character.isLetter(word.charAt(word.length() - 1));
            Pattern pattern = Pattern.compile(plain ? "\\b" + word + "\\b" : Pattern.quote(word));
            Due.holds("the source does without " + word, !pattern.matcher(code).find());
        }
        Matcher imports = Pattern.compile("import ([^;]+);").matcher(code);
        while (imports.find()) {
            Due.holds("the import is listed: " + imports.group(1), Set.of("java.util.Arrays", "java.util.ArrayList", "java.util.List").contains(imports.group(1)));
        }
        for (int i = 0; i < source.length(); i++) {
            if (source.charAt(i) > 127) {
                Due.tell("a sign beyond 127 at " + i);
            }
        }
    }
}
