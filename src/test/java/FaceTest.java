import java.lang.reflect.Field;
import java.lang.reflect.Member;
import java.lang.reflect.Method;
import java.lang.reflect.Modifier;
import java.nio.file.Files;
import java.nio.file.Path;
import java.util.ArrayList;
import java.util.Arrays;
import java.util.List;
import java.util.Set;
import java.util.TreeSet;

/** The public face, the constants, and what LANGUAGE.md forbids as far as it can be seen from the text. */
public final class FaceTest {
    private static final String[] METHODS = {
        "int set(int,int)", "int own(int,int)", "int stamp(int,int,int,int)", "int pass(int,int,int)",
        "int forge(int,int,int,int,int)", "int takeBack(int)", "int door(int,int,int)", "int come(int,int,int)",
        "int flush()", "int ofPage(int,int)", "int ofStamp(int,int)", "int leads(int,int)", "int note(int,int)",
        "int count(int)", "int ended(int)", "int walk(int,int,int,int)", "int hides(int)", "long needless(int)",
        "int longest()", "int put(long)", "int wipe()", "int fault()", "int carryOut()", "int undo()", "int save(int)",
        "int restore(int)",
    };
    private static final String[] CONSTANTS = {
        "NO_SUCH=-1", "BAD_VALUE=-2", "BAD_TEXT=-3", "TOO_MANY=-4", "NOT_POSSIBLE=-5", "NONE=-6", "BOARD=0", "NAMES=1",
        "WIPE=2", "KEEP=3", "READ=1", "WRITE=2", "GIVE=4",
    };

    private static void yes(String what, boolean holds) {
        Due.due(what, holds ? 1 : 0, 1);
    }

    public static void main(String[] args) throws Exception {
        Class<?> c = VisaPages.class;
        yes("public and final", Modifier.isPublic(c.getModifiers()) && Modifier.isFinal(c.getModifiers()));
        yes("one public constructor", c.getDeclaredConstructors().length == 1 && c.getConstructors().length == 1);
        methods(c);
        fields(c);
        inside(c);
        text();
        Due.end("FaceTest");
    }

    private static void methods(Class<?> c) {
        Set<String> found = new TreeSet<>();
        for (Method m : c.getDeclaredMethods()) {
            if (!Modifier.isPrivate(m.getModifiers())) {
                yes("public, not static: " + m, Modifier.isPublic(m.getModifiers()) && !Modifier.isStatic(m.getModifiers()));
                found.add(m.toString().replaceAll("^public (\\w+) VisaPages\\.", "$1 "));
            }
        }
        Due.same("the methods", found.toString(), new TreeSet<>(Arrays.asList(METHODS)).toString());
    }

    private static void fields(Class<?> c) throws Exception {
        Set<String> found = new TreeSet<>();
        for (Field f : c.getDeclaredFields()) {
            if (!Modifier.isPrivate(f.getModifiers())) {
                yes("a constant: " + f, f.toString().startsWith("public static final int "));
                found.add(f.getName() + "=" + f.getInt(null));
            }
        }
        Due.same("the constants", found.toString(), new TreeSet<>(Arrays.asList(CONSTANTS)).toString());
    }

    private static void inside(Class<?> c) {
        Set<String> names = new TreeSet<>();
        for (String m : METHODS) {
            names.add(m.replaceAll("^\\w+ (\\w+).*", "$1"));
        }
        List<Class<?>> all = new ArrayList<>(Arrays.asList(c.getDeclaredClasses()));
        yes("at most 12 classes", all.size() < 12);
        for (Class<?> k : all) {
            yes("static and not public: " + k, Modifier.isStatic(k.getModifiers()) && !Modifier.isPublic(k.getModifiers()));
        }
        all.add(c);
        for (Class<?> k : all) {
            int own = 0;
            for (Field f : k.getDeclaredFields()) {
                boolean fixed = Modifier.isStatic(f.getModifiers());
                own += fixed ? 0 : 1;
                yes("static ones are final: " + f, !fixed || Modifier.isFinal(f.getModifiers()));
            }
            yes("at most 20 fields: " + k, own <= 20);
            for (Method m : k.getDeclaredMethods()) {
                boolean face = k == c && Modifier.isPublic(m.getModifiers());
                yes("no other method bears a public name: " + m, face || !names.contains(((Member) m).getName()));
                yes("at most seven parameters: " + m, m.getParameterCount() <= 7);
            }
        }
    }

    private static void text() throws Exception {
        String code = Files.readString(Path.of("src/main/java/VisaPages.java"))
            .replaceAll("(?s)/\\*.*?\\*/", "").replaceAll("//[^\n]*", "");
        String[] words = {
            "throw", "throws", "try", "catch", "synchronized", "assert", "package", "equals", "hashCode", "toString",
            "Random", "Thread", "Object", "volatile", "transient", "native", "interface", "protected",
        };
        for (String word : words) {
            yes("not in the text: " + word, !code.matches("(?s).*\\b" + word + "\\b.*"));
        }
        yes("none of the functions that throw", !code.matches("(?s).*Exact\\(.*"));
        yes("nothing of System but arraycopy", !code.matches("(?s).*\\bSystem\\.(?!arraycopy\\().*"));
        yes("no lambda, no method reference", !code.contains("->") && !code.contains("::"));
        yes("no import but Arrays", code.split("\\bimport\\b").length <= 2 && code.contains("import java.util.Arrays;"));
        yes("arrays that are copied hold numbers alone", !code.contains("boolean["));
        yes("no text is joined by +", !code.matches("(?s).*\"\\s*\\+.*|.*\\+\\s*\".*"));
        yes("plain signs alone", code.chars().allMatch(sign -> sign == '\n' || sign >= 32 && sign < 127));
    }
}
