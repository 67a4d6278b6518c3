import java.lang.reflect.Constructor;
import java.lang.reflect.Field;
import java.lang.reflect.Method;
import java.lang.reflect.Modifier;
import java.nio.file.Files;
import java.nio.file.Path;
import java.util.ArrayList;
import java.util.Collections;
import java.util.List;
import java.util.regex.Matcher;
import java.util.regex.Pattern;

/** The face is the document's and no more; the file keeps to what LANGUAGE.md leaves of the language. */
public final class FaceTest {
    private static final String[] FACE = {
        "int feed(int)", "int end(int)", "int text()", "int fault()", "int rule(int)", "int door(int,int)",
        "int crowd(int,int)", "int alter(int,int,int)", "int hang(int,int,int)", "int cut(int)", "int come(int,int,int)",
        "int leave(int)", "int pass()", "int ticks(int)", "int runs(int,int)", "int ahead(int,int)", "int lets(int)",
        "int turns(int,int)", "int when()", "int depth(int,int)", "int rate(int,int)", "int swap(int,int)",
        "int open(int,int)", "int kind(int,int,int)", "int fill(int,int,int)", "long luck(int,int,int)",
        "long mean(int,int,int)", "int see(int,int)", "int forget(int)", "int kinds(int)", "int depths(int)",
        "int rates(int)", "int ask(int,int)", "int drift(int,int,int)", "int keep(int)", "int back(int)",
        "int sheet(int,int,int)", "int lay(int,int,int)", "int read(int,int,int,int)", "int torn()", "int count(int)"};

    public static void main(String[] args) throws Exception {
        face();
        constants();
        privateNames();
        source();
        Due.finish();
    }

    private static void face() {
        Due.holds("the class is public and final",
            Modifier.isPublic(TokenDoors.class.getModifiers()) && Modifier.isFinal(TokenDoors.class.getModifiers()));
        List<String> due = new ArrayList<>(List.of(FACE));
        List<String> found = new ArrayList<>();
        for (Method m : TokenDoors.class.getDeclaredMethods()) {
            if (Modifier.isPrivate(m.getModifiers()) || m.isSynthetic()) {
                continue;
            }
            StringBuilder told = new StringBuilder(m.getReturnType().getName()).append(' ').append(m.getName()).append('(');
            for (Class<?> p : m.getParameterTypes()) {
                told.append(told.charAt(told.length() - 1) == '(' ? "" : ",").append(p.getName());
            }
            found.add(told.append(')').toString());
            Due.holds(told + " is public and no static one", (m.getModifiers() & ~Modifier.FINAL) == Modifier.PUBLIC);
        }
        Collections.sort(due);
        Collections.sort(found);
        Due.holds("the methods are " + due + ", not " + found, due.equals(found));
        Constructor<?>[] makers = TokenDoors.class.getDeclaredConstructors();
        Due.holds("one public constructor of nothing",
            makers.length == 1 && Modifier.isPublic(makers[0].getModifiers()) && makers[0].getParameterCount() == 0);
    }

    private static void constants() {
        int seen = 0;
        for (Field f : TokenDoors.class.getDeclaredFields()) {
            if (f.isSynthetic() || Modifier.isPrivate(f.getModifiers())) {
                continue;
            }
            seen++;
            Due.holds(f + " is a constant", List.of("BAD", "STATE", "FULL", "NONE").contains(f.getName())
                && f.getModifiers() == (Modifier.PUBLIC | Modifier.STATIC | Modifier.FINAL) && f.getType() == int.class);
        }
        Due.is("how many constants", seen, 4);
        Due.is("BAD", TokenDoors.BAD, -1);
        Due.is("STATE", TokenDoors.STATE, -2);
        Due.is("FULL", TokenDoors.FULL, -3);
        Due.is("NONE", TokenDoors.NONE, -4);
    }

    private static void privateNames() {
        List<String> open = new ArrayList<>();
        for (String f : FACE) {
            open.add(f.replaceAll("^\\w+ |\\(.*", ""));
        }
        List<Class<?>> all = new ArrayList<>(List.of(TokenDoors.class.getDeclaredClasses()));
        for (Class<?> c : all) {
            Due.holds(c + " is static", Modifier.isStatic(c.getModifiers()));
            Due.holds(c + " is no public one", !Modifier.isPublic(c.getModifiers()));
        }
        all.add(TokenDoors.class);
        Due.holds("at most twelve classes", all.size() <= 12);
        for (Class<?> c : all) {
            int fields = 0;
            for (Field f : c.getDeclaredFields()) {
                boolean isStatic = Modifier.isStatic(f.getModifiers());
                fields += isStatic ? 0 : 1;
                Due.holds(f + " is final if it is static", !isStatic || Modifier.isFinal(f.getModifiers()));
            }
            Due.holds(c + " has at most twenty fields", fields <= 20);
            for (Method m : c.getDeclaredMethods()) {
                Due.holds(m + " takes at most seven", m.getParameterCount() <= 7);
                boolean face = c == TokenDoors.class && Modifier.isPublic(m.getModifiers());
                Due.holds(m + " has a name of its own", face || !open.contains(m.getName()));
            }
        }
    }

    private static void source() throws Exception {
        String text = Files.readString(Path.of("src/main/java/TokenDoors.java"));
        String code = text.replaceAll("(?s)/\\*.*?\\*/", "").replaceAll("//[^\n]*", "").replaceAll("\"[^\"\n]*\"", "\"\"");
        Matcher outside = Pattern.compile(
            "\\b(throws?|try|catch|finally|synchronized|assert|package|var|native|volatile|transient|protected|Object|"
            + "System\\.(?!arraycopy)\\w+|Thread|Random|Math\\.\\w+Exact|hashCode|toString|record|double|float)\\b|->|::|@")
            .matcher(code);
        while (outside.find()) {
            Due.holds("the file does without " + outside.group(), false);
        }
        Matcher imports = Pattern.compile("import ([^;]*);").matcher(code);
        while (imports.find()) {
            Due.holds("the import of " + imports.group(1),
                List.of("java.util.Arrays", "java.util.ArrayList", "java.util.List").contains(imports.group(1)));
        }
        for (int i = 0; i < text.length(); i++) {
            Due.holds("the file is ASCII", text.charAt(i) < 128);
        }
    }
}
