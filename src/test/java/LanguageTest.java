import java.io.DataInputStream;
import java.io.IOException;
import java.lang.reflect.Field;
import java.lang.reflect.Method;
import java.lang.reflect.Modifier;
import java.nio.file.Files;
import java.nio.file.Path;
import java.util.ArrayList;
import java.util.List;
import java.util.Set;
import java.util.TreeSet;
import java.util.regex.Matcher;
import java.util.regex.Pattern;

/** Such rules of ../shared/LANGUAGE.md as a program can see: the face, the words, the sizes. */
public final class LanguageTest {
    private static final Check CHECK = new Check("LanguageTest");
    private static final String[] FACE = {
        "int feed(int,int,int,int,int)", "int turn()", "boolean patch(int,int)", "boolean key(int)",
        "boolean take(int)", "int curve(int,boolean)", "int hash(int)", "int mac(int,int)",
        "int seal(int,long,int,int)", "int open(int,long,int,int)", "boolean start(int,boolean,int,int,int)",
        "int write(int,int)", "int read(int,int)", "int send(int,int)", "int receive(int,int)",
        "boolean rekey(int,boolean)", "int state(int,int)", "int told(int,int,int)", "int out(int)",
        "int count(int)",
    };
    private static final String[] FORBIDDEN = {
        "\\bthrows?\\b", "\\btry\\b", "\\bcatch\\b", "\\bfinally\\b", "\\bsynchronized\\b", "\\bassert\\b",
        "\\bimport\\b", "\\bpackage\\b", "\\bprotected\\b", "\\bdouble\\b", "\\bfloat\\b", "\\bvar\\b", "->", "::",
        "\\bstatic\\s*\\{", "\\bhashCode\\b", "\\btoString\\b", "\\bMath\\.\\w+Exact\\b", "\\bwhile\\s*\\(\\s*true",
        "\\bfor\\s*\\(\\s*;",
    };

    /** Those members of the library that the class uses, all of them in rule 4. */
    private static final Set<String> LIBRARY = Set.of("java/lang/Object.<init>", "java/lang/System.arraycopy",
            "java/lang/Integer.rotateRight", "java/lang/String.charAt");

    public static void main(String[] args) throws IOException {
        face();
        classes();
        library();
        Path source = Path.of("src/main/java/NoiseEngine.java");
        String code = withoutComments(Files.readString(source));
        words(code);
        methods(code);
        CHECK.end();
    }

    private static void face() {
        Set<String> due = new TreeSet<>(List.of(FACE));
        Set<String> names = new TreeSet<>();
        for (String method : FACE) {
            names.add(method.substring(method.indexOf(' ') + 1, method.indexOf('(')));
        }
        Set<String> seen = new TreeSet<>();
        for (Method method : NoiseEngine.class.getDeclaredMethods()) {
            if (Modifier.isPrivate(method.getModifiers())) {
                CHECK.due("private " + method.getName() + " bears a public name", names.contains(method.getName()), false);
            } else {
                CHECK.due(method.getName() + " is public", Modifier.isPublic(method.getModifiers()), true);
                CHECK.due(method.getName() + " is static", Modifier.isStatic(method.getModifiers()), false);
                seen.add(signature(method));
            }
        }
        CHECK.due("the public methods", seen.toString(), due.toString());
        CHECK.due("constructors", NoiseEngine.class.getDeclaredConstructors().length, 1);
        CHECK.due("public constructors", NoiseEngine.class.getConstructors().length, 1);
        CHECK.due("the class is public and final",
                NoiseEngine.class.getModifiers() == (Modifier.PUBLIC | Modifier.FINAL), true);
        for (Class<?> inside : NoiseEngine.class.getDeclaredClasses()) {
            for (Method method : inside.getDeclaredMethods()) {
                CHECK.due(inside.getSimpleName() + "." + method.getName() + " bears a public name",
                        names.contains(method.getName()), false);
            }
        }
    }

    private static String signature(Method method) {
        StringBuilder signature = new StringBuilder(method.getReturnType() + " " + method.getName() + "(");
        String between = "";
        for (Class<?> type : method.getParameterTypes()) {
            signature.append(between).append(type);
            between = ",";
        }
        return signature + ")";
    }

    private static void classes() {
        List<Class<?>> all = new ArrayList<>(List.of(NoiseEngine.class.getDeclaredClasses()));
        for (Class<?> inside : all) {
            CHECK.due(inside + " is static", Modifier.isStatic(inside.getModifiers()), true);
            CHECK.due(inside + " is public", Modifier.isPublic(inside.getModifiers()), false);
        }
        all.add(NoiseEngine.class);
        CHECK.due(all.size() + " classes are not too many", all.size() <= 12, true);
        for (Class<?> any : all) {
            int own = 0;
            for (Field field : any.getDeclaredFields()) {
                int modifiers = field.getModifiers();
                if (Modifier.isStatic(modifiers)) {
                    CHECK.due(field + " is final", Modifier.isFinal(modifiers), true);
                } else {
                    own++;
                }
                if (any == NoiseEngine.class && !field.getName().equals("NONE")) {
                    CHECK.due(field + " is private", Modifier.isPrivate(modifiers), true);
                }
            }
            CHECK.due(any + ": " + own + " fields are not too many", own <= 20, true);
            for (Method method : any.getDeclaredMethods()) {
                CHECK.due(method + ": parameters are not too many", method.getParameterCount() <= 7, true);
            }
        }
    }

    /** What the compiled classes name of other classes: beyond those of their own, LIBRARY alone. */
    private static void library() throws IOException {
        List<Class<?>> all = new ArrayList<>(List.of(NoiseEngine.class.getDeclaredClasses()));
        all.add(NoiseEngine.class);
        for (Class<?> any : all) {
            for (String member : membersNamed(any)) {
                CHECK.due(any.getName() + " uses " + member,
                        member.startsWith("NoiseEngine") || LIBRARY.contains(member), true);
            }
        }
    }

    /** The fields and methods in the constant pool of a class, each as Class.name. */
    private static Set<String> membersNamed(Class<?> any) throws IOException {
        Set<String> members = new TreeSet<>();
        try (DataInputStream in = new DataInputStream(any.getResourceAsStream("/" + any.getName() + ".class"))) {
            in.skipNBytes(8);
            int size = in.readUnsignedShort();
            String[] texts = new String[size];
            int[][] pairs = new int[size][];
            int[] tags = new int[size];
            for (int i = 1; i < size; i++) {
                tags[i] = in.readUnsignedByte();
                switch (tags[i]) {
                    case 1 -> texts[i] = in.readUTF();
                    case 3 -> in.skipNBytes(4);
                    case 5 -> {
                        in.skipNBytes(8);
                        // A long takes two places of the pool.
                        i++;
                    }
                    case 7, 8 -> pairs[i] = new int[] {in.readUnsignedShort()};
                    case 9, 10, 11, 12 -> pairs[i] = new int[] {in.readUnsignedShort(), in.readUnsignedShort()};
                    // Doubles, lambdas and texts joined by + need entries of other kinds.
                    default -> throw new IOException(any.getName() + " has a constant of kind " + tags[i]);
                }
            }
            for (int i = 1; i < size; i++) {
                if (tags[i] >= 9 && tags[i] <= 11) {
                    members.add(texts[pairs[pairs[i][0]][0]] + "." + texts[pairs[pairs[i][1]][0]]);
                }
            }
        }
        return members;
    }

    private static String withoutComments(String source) {
        Matcher matcher = Pattern.compile("/\\*.*?\\*/|//[^\\n]*|\"[^\"\\n]*\"", Pattern.DOTALL).matcher(source);
        // The lines are kept, so that the lengths of methods stay what they are.
        return matcher.replaceAll(found -> found.group().replaceAll("[^\\n]+", " "));
    }

    private static void words(String code) {
        for (String forbidden : FORBIDDEN) {
            CHECK.due("'" + forbidden + "' stands in the class", Pattern.compile(forbidden).matcher(code).find(), false);
        }
    }

    private static void methods(String code) {
        String[] lines = code.split("\n");
        int begun = -1;
        for (int i = 0; i < lines.length; i++) {
            String line = lines[i];
            if (begun < 0 && line.matches("\\s+[\\w\\s\\[\\]]+\\([^;]*\\{") && !line.matches("\\s+(if|for|while|switch).*")) {
                begun = i;
            }
            if (begun >= 0 && line.matches("\\s+\\}") && indent(line) == indent(lines[begun])) {
                int length = i - begun + 1;
                CHECK.due(lines[begun].trim() + " has " + length + " lines", length <= 60, true);
                begun = -1;
            }
        }
    }

    private static int indent(String line) {
        int indent = 0;
        while (indent < line.length() && line.charAt(indent) == ' ') {
            indent++;
        }
        return indent;
    }
}
