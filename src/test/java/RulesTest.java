import java.io.DataInputStream;
import java.io.IOException;
import java.lang.reflect.Executable;
import java.lang.reflect.Field;
import java.lang.reflect.Method;
import java.lang.reflect.Modifier;
import java.nio.charset.StandardCharsets;
import java.nio.file.Files;
import java.nio.file.Path;
import java.util.ArrayList;
import java.util.List;
import java.util.Set;
import java.util.regex.Matcher;
import java.util.regex.Pattern;

/**
 * What can be seen of the rules of ../shared/LANGUAGE.md in the class's text and by reflection.
 * It runs in the project's directory, as .ci/run does.
 */
public final class RulesTest {
    private static final Due DUE = new Due();
    private static final int MOST_LINES = 60;
    private static final Set<String> PUBLIC_NAMES = Set.of("feed", "end", "add", "remove", "tag", "search", "fault", "found",
        "conversations", "thread", "about", "at", "count");
    private static final Set<String> LIBRARY = Set.of("java/lang/Object.<init>", "java/lang/String.length",
        "java/lang/String.charAt", "java/util/ArrayList.<init>", "java/util/ArrayList.add", "java/util/ArrayList.get",
        "java/util/ArrayList.remove", "java/util/ArrayList.size", "java/lang/Math.min", "java/lang/Math.floorDiv",
        "java/util/Arrays.copyOf", "java/util/Arrays.fill", "java/lang/IllegalStateException.<init>",
        "java/lang/IllegalArgumentException.<init>", "java/lang/IndexOutOfBoundsException.<init>");

    public static void main(String[] args) throws IOException {
        String source = Files.readString(Path.of("src/main/java/MailArchive.java"), StandardCharsets.ISO_8859_1);
        String code = source.replaceAll("(?s)/\\*.*?\\*/|//[^\\n]*", " ").replaceAll("\"(?:\\\\.|[^\"\\\\])*\"", "\"\"");
        DUE.is("signs 1 to 127", source.chars().allMatch(c -> c >= 1 && c <= 127), true);
        DUE.is("a package line", code.matches("(?s).*\\bpackage\\b.*"), false);
        imports(code);
        words(code);
        library(code);
        thrown(code);
        lengths(source);
        members();
        used(MailArchive.class);
        for (Class<?> each : MailArchive.class.getDeclaredClasses()) {
            used(each);
        }
        DUE.end();
    }

    private static List<String> all(String pattern, String text) {
        List<String> all = new ArrayList<>();
        Matcher matcher = Pattern.compile(pattern).matcher(text);
        while (matcher.find()) {
            all.add(matcher.group(1));
        }
        return all;
    }

    /** Rule 4. */
    private static void imports(String code) {
        Set<String> good = Set.of("java.util.ArrayList", "java.util.Arrays", "java.util.List", "java.util.Iterator");
        for (String name : all("\\bimport\\s+([^;]+);", code)) {
            DUE.is("import " + name, good.contains(name), true);
        }
    }

    /** Rules 2, 3, 6 and 13. */
    private static void words(String code) {
        String[] never = {"finally", "synchronized", "assert", "volatile", "native", "transient", "Thread", "Object", "var", "hashCode",
            "toString", "getMessage", "NaN", "Random", "Date", "->", "::"};
        for (String word : never) {
            String pattern = word.matches("\\w+") ? "(\\b" + word + "\\b)" : "(" + word + ")";
            DUE.is(word + " in the class", all(pattern, code).size(), 0);
        }
        DUE.is("catches in the class", all("\\b(catch)\\b", code).size(), 0);
        DUE.is("static initialisers", all("(\\bstatic\\s*\\{)", code).size(), 0);
    }

    /** Rule 4. */
    private static void library(String code) {
        for (String name : all("\\bMath\\.(\\w+)", code)) {
            DUE.is("Math." + name, Set.of("min", "max", "abs", "floorDiv", "floorMod").contains(name), true);
        }
        for (String name : all("\\bArrays\\.(\\w+)", code)) {
            DUE.is("Arrays." + name, Set.of("copyOf", "copyOfRange", "fill").contains(name), true);
        }
        for (String name : all("\\bSystem\\.(\\w+)", code)) {
            DUE.is("System." + name, name, "arraycopy");
        }
    }

    /** Rule 6. */
    private static void thrown(String code) {
        Set<String> good = Set.of("IllegalStateException", "IllegalArgumentException", "IndexOutOfBoundsException");
        for (String what : all("\\bthrow\\b([^;]*);", code)) {
            List<String> name = all("^\\s*new (\\w+)\\((?:\"\")?\\)$", what);
            DUE.is("throw" + what, name.size() == 1 && good.contains(name.get(0)), true);
        }
    }

    /** Rule 11: a method ends with the first line that is a } as far from the left as its own first line. */
    private static void lengths(String source) {
        String[] lines = source.split("\n");
        for (int i = 0; i < lines.length; i++) {
            Matcher matcher = Pattern.compile("^( {4}| {8})(?! )[\\w<>\\[\\], ]+\\(.*").matcher(lines[i]);
            if (!matcher.matches() || lines[i].endsWith(";")) {
                continue;
            }
            int end = i;
            while (end < lines.length && !lines[end].equals(matcher.group(1) + "}")) {
                end++;
            }
            DUE.is("lines of <" + lines[i].trim() + "> are too many", end - i + 1 > MOST_LINES, false);
        }
    }

    /** Rules 1, 5 and 11. */
    private static void members() {
        List<Class<?>> classes = new ArrayList<>(List.of(MailArchive.class));
        classes.addAll(List.of(MailArchive.class.getDeclaredClasses()));
        DUE.is(classes.size() + " classes are too many", classes.size() > 12, false);
        for (Class<?> each : classes) {
            int fields = 0;
            for (Field field : each.getDeclaredFields()) {
                int modifiers = field.getModifiers();
                fields += Modifier.isStatic(modifiers) ? 0 : 1;
                DUE.is(field + " is static and changes", Modifier.isStatic(modifiers) && !Modifier.isFinal(modifiers), false);
            }
            DUE.is(fields + " fields of " + each.getName() + " are too many", fields > 20, false);
            DUE.is(each.getName() + " has classes inside", each != MailArchive.class && each.getDeclaredClasses().length > 0, false);
            for (Method method : each.getDeclaredMethods()) {
                boolean bearsPublicName = !Modifier.isPublic(method.getModifiers()) && PUBLIC_NAMES.contains(method.getName());
                DUE.is(method + " bears the name of a public one", bearsPublicName, false);
            }
            List<Executable> calls = new ArrayList<>(List.of(each.getDeclaredMethods()));
            calls.addAll(List.of(each.getDeclaredConstructors()));
            for (Executable call : calls) {
                DUE.is(call + " takes too many", call.getParameterCount() > 7, false);
            }
        }
    }

    /** Rules 2, 4 and 10: what the compiled class calls; a lambda or a text joined by + would be a call made at run time. */
    private static void used(Class<?> each) throws IOException {
        String file = each.getName() + ".class";
        try (DataInputStream in = new DataInputStream(MailArchive.class.getResourceAsStream(file))) {
            in.skipBytes(8);
            int[][] pairs = new int[in.readUnsignedShort()][];
            String[] texts = new String[pairs.length];
            List<Integer> calls = new ArrayList<>();
            for (int i = 1; i < pairs.length; i++) {
                int kind = in.readUnsignedByte();
                boolean madeAtRunTime = kind >= 15 && kind <= 18;
                DUE.is(file + " has a call that is made at run time", madeAtRunTime, false);
                if (madeAtRunTime) {
                    return;
                }
                if (kind == 1) {
                    texts[i] = in.readUTF();
                } else if (kind == 7 || kind == 8) {
                    pairs[i] = new int[] {in.readUnsignedShort(), 0};
                } else {
                    pairs[i] = new int[] {in.readUnsignedShort(), in.readUnsignedShort()};
                }
                if (kind == 10 || kind == 11) {
                    calls.add(i);
                }
                if (kind == 5 || kind == 6) {
                    in.skipBytes(4);
                    i++;
                }
            }
            for (int call : calls) {
                String owner = texts[pairs[pairs[call][0]][0]];
                String name = owner + "." + texts[pairs[pairs[call][1]][0]];
                DUE.is(file + " calls " + name, owner.startsWith("MailArchive") || LIBRARY.contains(name), true);
            }
        }
    }
}
