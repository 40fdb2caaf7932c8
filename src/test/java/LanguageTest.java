import java.io.IOException;
import java.lang.reflect.Constructor;
import java.lang.reflect.Field;
import java.lang.reflect.Method;
import java.lang.reflect.Modifier;
import java.nio.file.Files;
import java.nio.file.Path;
import java.util.ArrayList;
import java.util.Arrays;
import java.util.HashSet;
import java.util.List;
import java.util.Set;
import java.util.TreeSet;
import java.util.regex.Matcher;
import java.util.regex.Pattern;

/** What of LANGUAGE.md can be looked at plainly: the face, forbidden words, long methods, static fields. */
public final class LanguageTest {
    private static final String FACE = "feed(int,int,int,int,int)int end(int)boolean setup(int,int,int)int offer(int)int "
        + "fetch()int finish(int,int)int batch(int,int)int reap()int length()int kick()int signal()int event(int,int)int "
        + "hush(int,int)int reset()int drained(int)int spoil(int,int,int,int)int descriptor(int,int,int)int table(int)int "
        + "row(int,int)int buffer(int,int)int now(int)int walked(int)int chain(int)int due(int,int,int)int steps(int)int "
        + "states()int missed()int missedBy(int)int misses()int play()int played(int)int notices(int)int drawn(int,int)int "
        + "image(int)boolean restore(int)boolean count(int)int";

    public static void main(String[] args) throws IOException {
        face();
        inside();
        source(Files.readString(Path.of("src/main/java/RingMarks.java")));
        Due.close("LanguageTest");
    }

    private static void face() {
        Set<String> publics = new TreeSet<>();
        for (Method m : RingMarks.class.getDeclaredMethods()) {
            if (Modifier.isPublic(m.getModifiers())) {
                StringBuilder text = new StringBuilder(m.getName()).append('(');
                for (Class<?> p : m.getParameterTypes()) {
                    text.append(text.charAt(text.length() - 1) == '(' ? "" : ",").append(p.getName());
                }
                publics.add(text.append(')').append(m.getReturnType().getName()).toString());
            } else {
                Due.is("private: " + m.getName(), Modifier.isPrivate(m.getModifiers()), true);
            }
        }
        Due.is("the face is the document's", publics.equals(new TreeSet<>(Arrays.asList(FACE.split(" ")))), true);
        for (Field f : RingMarks.class.getDeclaredFields()) {
            boolean open = f.getName().equals("NONE");
            Due.is("visible: " + f.getName(), Modifier.isPublic(f.getModifiers()), open);
            Due.is("private: " + f.getName(), Modifier.isPrivate(f.getModifiers()), !open);
        }
        Constructor<?>[] constructors = RingMarks.class.getDeclaredConstructors();
        Due.is("one constructor", constructors.length, 1);
        Due.is("final", Modifier.isFinal(RingMarks.class.getModifiers()), true);
    }

    private static void inside() {
        Set<String> faceNames = new HashSet<>();
        for (String m : FACE.split(" ")) {
            faceNames.add(m.substring(0, m.indexOf('(')));
        }
        List<Class<?>> all = new ArrayList<>(List.of(RingMarks.class.getDeclaredClasses()));
        Due.is("at most twelve classes", all.size() < 12, true);
        for (Class<?> c : all) {
            Due.is("static: " + c, Modifier.isStatic(c.getModifiers()), true);
            int fields = 0;
            for (Field f : c.getDeclaredFields()) {
                boolean isStatic = Modifier.isStatic(f.getModifiers());
                fields += isStatic ? 0 : 1;
                Due.is("static but final: " + f, !isStatic || Modifier.isFinal(f.getModifiers()), true);
            }
            Due.is("at most twenty fields: " + c, fields <= 20, true);
            for (Method m : c.getDeclaredMethods()) {
                Due.is("no name of the face: " + m, faceNames.contains(m.getName()), false);
                Due.is("at most seven parameters: " + m, m.getParameterCount() <= 7, true);
            }
        }
    }

    private static void source(String text) {
        String code = text.replaceAll("(?s)/\\*.*?\\*/", "").replaceAll("//[^\n]*", "").replaceAll("\"[^\"\n]*\"", "\"\"");
        for (String word : "throw throws try catch synchronized assert package record enum double float".split(" ")) {
            Due.is("no " + word, Pattern.compile("\\b" + word + "\\b").matcher(code).find(), false);
        }
        for (String part : new String[] {"->", "::", "System.out", "static {", "Exact", "instanceof", "hashCode", ".equals("}) {
            Due.is("no " + part, code.contains(part), false);
        }
        Matcher imports = Pattern.compile("import ([^;]+);").matcher(code);
        while (imports.find()) {
            Due.is("import " + imports.group(1), imports.group(1).equals("java.util.Arrays"), true);
        }
        Due.is("signs 1 to 127 alone", text.chars().allMatch(c -> c > 0 && c < 128), true);
        methodLengths(code.split("\n"));
    }

    /** A method begins at four or eight blanks, and ends at a brace as far in. */
    private static void methodLengths(String[] lines) {
        Pattern start = Pattern.compile("^( {4}| {8})[a-z][\\w\\[\\] ]*\\w\\([^;]*\\) \\{$");
        for (int from = 0; from < lines.length; from++) {
            Matcher m = start.matcher(lines[from]);
            if (!m.find()) {
                continue;
            }
            int to = from;
            while (to < lines.length - 1 && !lines[to].equals(m.group(1) + "}")) {
                to++;
            }
            Due.is("short: " + lines[from].trim(), to - from <= 60, true);
        }
    }
}
