import java.io.DataInputStream;
import java.io.IOException;
import java.lang.reflect.Field;
import java.lang.reflect.Method;
import java.lang.reflect.Modifier;
import java.nio.file.Files;
import java.nio.file.Path;
import java.util.Set;
import java.util.TreeSet;
import java.util.regex.Matcher;
import java.util.regex.Pattern;

/** The face of the document, and those rules of the language that can be seen from outside. */
public final class LanguageTest {
    private static final Set<String> FACE = Set.of(
            "int panel(int,int)", "int bound(int,int)", "int set(int,int,int)", "int press(int,int,int)", "int wipe()",
            "int lose(int)", "int frame(int)", "int drift(int,int)", "int told(int)", "int cell(int,int,int)",
            "int contact(int,int)", "int track(int,int)", "int named(int)", "int paired(int)", "int rule(int,int,int,int)",
            "long ghosts(int,int,int)", "long digest()", "int keep(int)", "int goBack(int)");
    private static final String[] FORBIDDEN = {"throw", "throws", "try", "catch", "finally", "synchronized", "assert", "protected",
        "package", "\\w*Exact", "Random", "Thread", "Object", "->", "::", "@"};

    /** Rule 4, as far as a program of numbers alone needs it: class, a dot, and what of it may be called. */
    private static final Pattern LIBRARY = Pattern.compile("java/lang/Object\\.<init>|java/lang/System\\.arraycopy|\\[[IJSBCZ]\\.clone"
            + "|java/util/Arrays\\.(copyOf|copyOfRange|fill)|java/lang/(Math|Integer|Long)\\.(compare|max|min|abs|signum|bitCount|floorDiv|floorMod)");

    public static void main(String[] args) throws IOException {
        constants();
        face();
        nested();
        text();
        lengths();
        library(TouchPanel.class);
        for (Class<?> inside : TouchPanel.class.getDeclaredClasses()) {
            library(inside);
        }
        Due.end();
    }

    private static void constants() {
        Due.due("NONE", TouchPanel.NONE, -1);
        Due.due("UNKNOWN", TouchPanel.UNKNOWN, -1000000001);
        Due.due("OUTSIDE", TouchPanel.OUTSIDE, -1000000002);
        Due.due("NOT", TouchPanel.NOT, -1000000003);
        Due.due("FULL", TouchPanel.FULL, -1000000004);
        Set<String> names = new TreeSet<>();
        for (Field field : TouchPanel.class.getDeclaredFields()) {
            if (!Modifier.isPrivate(field.getModifiers())) {
                names.add(field.getName());
            }
            holdsOfStatic(field);
        }
        Due.holds("the constants are those of the document: " + names, names.equals(Set.of("NONE", "UNKNOWN", "OUTSIDE", "NOT", "FULL")));
    }

    private static void holdsOfStatic(Field field) {
        if (Modifier.isStatic(field.getModifiers())) {
            Due.holds(field.getName() + " is final", Modifier.isFinal(field.getModifiers()));
        }
    }

    private static void face() {
        Due.holds("the class is public and final", Modifier.toString(TouchPanel.class.getModifiers()).equals("public final"));
        Due.due("constructors", TouchPanel.class.getDeclaredConstructors().length, 1);
        Set<String> face = new TreeSet<>();
        for (Method method : TouchPanel.class.getDeclaredMethods()) {
            if (!Modifier.isPrivate(method.getModifiers())) {
                face.add(method.toString().replace("public ", "").replace("TouchPanel.", ""));
            }
        }
        Due.holds("the face is that of the document: " + face, face.equals(FACE));
    }

    private static void nested() {
        Set<String> names = new TreeSet<>();
        for (Method method : TouchPanel.class.getMethods()) {
            names.add(method.getName());
        }
        checkMethods(TouchPanel.class, names);
        Due.holds("there are twelve classes at most", TouchPanel.class.getDeclaredClasses().length < 12);
        for (Class<?> inside : TouchPanel.class.getDeclaredClasses()) {
            int modifiers = inside.getModifiers();
            Due.holds(inside + " is private and static", Modifier.isPrivate(modifiers) && Modifier.isStatic(modifiers));
            Due.holds(inside + " has twenty fields at most", inside.getDeclaredFields().length <= 20);
            for (Field field : inside.getDeclaredFields()) {
                holdsOfStatic(field);
            }
            checkMethods(inside, names);
        }
    }

    private static void checkMethods(Class<?> type, Set<String> faceNames) {
        for (Method method : type.getDeclaredMethods()) {
            Due.holds(method + " has seven parameters at most", method.getParameterCount() <= 7);
            boolean isFace = type == TouchPanel.class && Modifier.isPublic(method.getModifiers());
            Due.holds(method + " bears a name of its own", isFace || !faceNames.contains(method.getName()));
        }
    }

    private static void text() throws IOException {
        String source = Files.readString(Path.of(System.getProperty("touchpanel.source")));
        String code = source.replaceAll("(?s)/\\*.*?\\*/", "").replaceAll("//[^\\n]*", "");
        for (String word : FORBIDDEN) {
            boolean plain = Character.isLetter(word.charAt(word.length() - 1));
            Pattern pattern = Pattern.compile(plain ? "\\b" + word + "\\b" : Pattern.quote(word));
            Due.holds("the source does without " + word, !pattern.matcher(code).find());
        }
        Matcher imports = Pattern.compile("import ([^;]+);").matcher(code);
        while (imports.find()) {
            Due.holds("the import is listed: " + imports.group(1), Set.of("java.util.Arrays", "java.util.ArrayList", "java.util.List").contains(imports.group(1)));
        }
        for (int i = 0; i < source.length(); i++) {
            if (source.charAt(i) > 127) {
                Due.tell("a sign beyond 127 at " + i);
            }
        }
    }

    /** A method begins with a line that ends in ") {" and ends with the brace below its first sign. */
    private static void lengths() throws IOException {
        Pattern begin = Pattern.compile("( {4}| {8})[A-Za-z][^;=]*\\) \\{");
        int start = 0;
        String end = null;
        int number = 0;
        for (String line : Files.readAllLines(Path.of(System.getProperty("touchpanel.source")))) {
            number++;
            boolean control = line.strip().matches("(if|for|while|switch|else|do)\\b.*");
            if (end == null && !control && begin.matcher(line).matches()) {
                start = number;
                end = " ".repeat(line.length() - line.stripLeading().length()) + "}";
            } else if (line.equals(end)) {
                Due.holds("the method at line " + start + " is sixty lines long at most", number - start < 60);
                end = null;
            }
        }
        Due.holds("methods were seen", start > 0);
    }

    /** What a class calls or reads outside the source stands in its pool of constants. */
    private static void library(Class<?> type) throws IOException {
        String name = type.getName();
        try (DataInputStream in = new DataInputStream(TouchPanel.class.getResourceAsStream(name + ".class"))) {
            in.readLong();
            int count = in.readUnsignedShort();
            String[] texts = new String[count];
            int[] tags = new int[count];
            int[][] parts = new int[count][2];
            for (int i = 1; i < count; i++) {
                tags[i] = in.readUnsignedByte();
                if (tags[i] == 1) {
                    texts[i] = in.readUTF();
                } else {
                    readParts(in, tags[i], parts[i]);
                }
                i += tags[i] == 5 || tags[i] == 6 ? 1 : 0;
            }
            for (int i = 1; i < count; i++) {
                Due.holds(name + " makes no call that is bound while it runs", tags[i] < 15);
                if (tags[i] >= 9 && tags[i] <= 11) {
                    String owner = texts[parts[parts[i][0]][0]];
                    String member = owner + "." + texts[parts[parts[i][1]][0]];
                    Due.holds(name + " calls what is listed: " + member, owner.startsWith("TouchPanel") || LIBRARY.matcher(member).matches());
                }
            }
        }
    }

    private static void readParts(DataInputStream in, int tag, int[] parts) throws IOException {
        switch (tag) {
            case 3, 4 -> in.readInt();
            case 5, 6 -> in.readLong();
            case 7, 8, 16, 19, 20 -> parts[0] = in.readUnsignedShort();
            case 15 -> in.skipBytes(3);
            default -> {
                parts[0] = in.readUnsignedShort();
                parts[1] = in.readUnsignedShort();
            }
        }
    }
}
