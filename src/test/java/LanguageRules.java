import java.io.IOException;
import java.lang.reflect.Constructor;
import java.lang.reflect.Field;
import java.lang.reflect.Method;
import java.lang.reflect.Modifier;
import java.nio.file.Files;
import java.nio.file.Path;
import java.util.Set;
import java.util.TreeSet;
import java.util.regex.Matcher;
import java.util.regex.Pattern;

/** Those of ../shared/LANGUAGE.md's rules that can be read off the class and its text. */
public final class LanguageRules {
    private static final String FILE = "src/main/java/KitchenDrift.java";
    private static final Due D = new Due("LanguageRules");

    private static final String FACE = "rooms(int) room(int,int,int) door(int,int,int) guest(int,int) "
            + "likes(int,int,int) leave(int) say(int) wipe() fault() judge(int) done() state(int,int) "
            + "behind(int,int) draw(int,int) goes(int) after(int,int) crowd(int,int) still() round() "
            + "throng(int) carried(int,int) hinges(int,int) best(int) rests(int,int) led(int,int,int,int) "
            + "excuses(int,int,int) seen(int,int) forget() tastes(int,int) drunk(int,int,int,int,int) "
            + "year(int,int,int) image(int) restore(int) told(int)";

    public static void main(String[] args) throws IOException {
        face();
        privateNames();
        String text = Files.readString(Path.of(FILE));
        String code = text.replaceAll("(?s)/\\*.*?\\*/", "").replaceAll("//[^\n]*", "");
        words(code);
        objects(code);
        lengths(code);
        D.end();
    }

    private static void face() {
        Class<?> face = KitchenDrift.class;
        D.due("1 final", Modifier.isFinal(face.getModifiers()) ? 1 : 0, 1);
        Set<String> due = new TreeSet<>(Set.of(FACE.split(" ")));
        Set<String> found = new TreeSet<>();
        for (Method m : face.getDeclaredMethods()) {
            if (Modifier.isPrivate(m.getModifiers())) {
                continue;
            }
            StringBuilder sign = new StringBuilder(m.getName()).append('(');
            for (int n = 0; n < m.getParameterCount(); n++) {
                sign.append(n > 0 ? "," : "").append(m.getParameterTypes()[n].getName());
            }
            found.add(sign.append(')').toString());
            D.due("1 public " + sign, Modifier.isPublic(m.getModifiers()) ? 1 : 0, 1);
            Class<?> answer = m.getName().equals("drunk") ? long.class : int.class;
            D.due("1 answer of " + sign, m.getReturnType() == answer ? 1 : 0, 1);
        }
        D.due("1 the methods of the document and no other: " + found, found.equals(due) ? 1 : 0, 1);
        for (Field f : face.getDeclaredFields()) {
            boolean constant = Set.of("NONE", "UNKNOWN", "OUTSIDE", "STATE", "FULL", "NO", "LOST").contains(f.getName());
            D.due("1 field " + f.getName(), Modifier.isPublic(f.getModifiers()) == constant
                    && Modifier.isPrivate(f.getModifiers()) != constant ? 1 : 0, 1);
        }
        for (Constructor<?> c : face.getDeclaredConstructors()) {
            D.due("1 constructor", c.getParameterCount() == 0 && Modifier.isPublic(c.getModifiers()) ? 1 : 0, 1);
        }
        D.due("11 classes", face.getDeclaredClasses().length < 12 ? 1 : 0, 1);
    }

    private static void privateNames() {
        Set<String> names = new TreeSet<>();
        for (Method m : KitchenDrift.class.getDeclaredMethods()) {
            if (Modifier.isPublic(m.getModifiers())) {
                names.add(m.getName());
            }
        }
        for (Method m : KitchenDrift.class.getDeclaredMethods()) {
            if (!Modifier.isPublic(m.getModifiers())) {
                D.due("1 a private method's name, " + m.getName(), names.contains(m.getName()) ? 1 : 0, 0);
            }
        }
        for (Class<?> inside : KitchenDrift.class.getDeclaredClasses()) {
            D.due("1 static " + inside, Modifier.isStatic(inside.getModifiers()) ? 1 : 0, 1);
            int fields = 0;
            for (Field f : inside.getDeclaredFields()) {
                fields += Modifier.isStatic(f.getModifiers()) ? 0 : 1;
                boolean changes = Modifier.isStatic(f.getModifiers()) && !Modifier.isFinal(f.getModifiers());
                D.due("5 a static field that changes, " + f, changes ? 1 : 0, 0);
            }
            D.due("11 fields of " + inside, fields <= 20 ? 1 : 0, 1);
            for (Method m : inside.getDeclaredMethods()) {
                D.due("1 the name of " + m, names.contains(m.getName()) ? 1 : 0, 0);
                D.due("11 parameters of " + m, m.getParameterCount() <= 7 ? 1 : 0, 1);
            }
        }
    }

    private static void words(String code) {
        for (String word : new String[] {"->", "::"}) {
            D.due("no " + word, code.contains(word) ? 1 : 0, 0);
        }
        for (String word : new String[] {"try", "catch", "finally", "throw", "throws", "synchronized", "assert", "package",
            "Object", "hashCode", "toString"}) {
            D.due("no " + word, Pattern.compile("\\b" + Pattern.quote(word) + "\\b").matcher(code).find() ? 1 : 0, 0);
        }
        Matcher imports = Pattern.compile("import ([^;]*);").matcher(code);
        while (imports.find()) {
            D.due("4 " + imports.group(1), imports.group(1).equals("java.util.Arrays") ? 1 : 0, 1);
        }
        Matcher calls = Pattern.compile("\\b(Math|Integer|Long|Arrays|System)\\.(\\w+)").matcher(code);
        while (calls.find()) {
            boolean listed = Set.of("max", "min", "bitCount", "fill", "arraycopy").contains(calls.group(2));
            D.due("4 " + calls.group(), listed ? 1 : 0, 1);
        }
    }

    /** Objects are made with the object alone, in fields; no call makes one. */
    private static void objects(String code) {
        for (String line : code.split("\n")) {
            if (line.contains("new ")) {
                boolean field = line.matches("\\s+(private )?(final )?\\w+(\\[\\])? \\w+ = .*");
                D.due("12 " + line.trim(), field ? 1 : 0, 1);
            }
        }
    }

    private static void lengths(String code) {
        int since = 0;
        for (String line : code.split("\n")) {
            boolean heads = line.matches("( {4}| {8})(public|private|static|void|int|long|boolean)[^=;]*\\) \\{");
            since = heads ? 0 : since + 1;
            boolean ends = line.matches(" {4}\\}| {8}\\}");
            D.due("11 a method of " + since + " lines", ends && since > 60 && since < 100 ? 1 : 0, 0);
        }
    }
}
