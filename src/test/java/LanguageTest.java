import java.lang.reflect.Constructor;
import java.lang.reflect.Field;
import java.lang.reflect.Method;
import java.lang.reflect.Modifier;
import java.nio.file.Files;
import java.nio.file.Path;
import java.util.Set;
import java.util.TreeSet;
import java.util.regex.Matcher;
import java.util.regex.Pattern;

/** The face of the document, and those rules of LANGUAGE.md that can be seen in the source and the classes. */
public final class LanguageTest {
    private static final String[] FACE = {
        "area(int,int)", "link(int,int,int,int)", "linkSet(int,int,int)", "folk(int,int,int,int)",
        "train(int,int,int,int)", "hold(int,boolean)", "set(int,int)", "ticks(int)", "areaOf(int,int)",
        "folkOf(int,int,int)", "next(int,int,boolean)", "walk(int,int,boolean)", "feed(int,long)", "order(int)",
        "stand(int,boolean)", "holds(int)", "given(int,int)", "counted(int,int,int)", "count(int,int,int)",
        "wrong(int,int)", "out(int,int)", "worst(int)", "option(int,int,int)", "design(int,int,int)", "kin(int)",
        "total(int)"};
    private static final String[] RULED_OUT = {
        "\\bthrow\\b", "\\btry\\b", "\\bcatch\\b", "\\bsynchronized\\b", "\\bassert\\b", "->", "::", "Exact\\b",
        "\\bpackage\\b", "\\bSystem\\.(?!arraycopy)", "\\bRandom\\b", "\\bThread\\b", "hashCode", "\\bnull\\b ==",
        "import (?!java\\.util\\.(Arrays|ArrayList|List);)", "\\bnew \\w+(<\\w*>)?\\([^;{]*\\)\\s*\\{"};
    private static int wrong = 0;

    public static void main(String[] args) throws Exception {
        face();
        classes();
        source(Files.readString(Path.of("src/main/java/CrowdOut.java")));
        System.out.println(wrong + " rules broken");
        if (wrong != 0) System.exit(1);
    }

    private static void due(boolean holds, String what) {
        if (!holds) {
            wrong++;
            System.out.println(what);
        }
    }

    private static void face() {
        Class<?> c = CrowdOut.class;
        due(Modifier.isPublic(c.getModifiers()) && Modifier.isFinal(c.getModifiers()), "rule 1: public and final");
        Set<String> want = new TreeSet<>(Set.of(FACE));
        Set<String> publicNames = new TreeSet<>();
        Set<String> got = new TreeSet<>();
        for (Method m : c.getDeclaredMethods()) {
            if (Modifier.isPrivate(m.getModifiers()) || m.isSynthetic()) continue;
            StringBuilder s = new StringBuilder(m.getName()).append('(');
            for (Class<?> p : m.getParameterTypes()) s.append(s.toString().endsWith("(") ? "" : ",").append(p.getName());
            got.add(s.append(')').toString());
            publicNames.add(m.getName());
            due(m.getReturnType() == int.class && Modifier.isPublic(m.getModifiers()), "rule 1: " + s);
        }
        due(want.equals(got), "rule 1: the face is " + got);
        Constructor<?>[] made = c.getDeclaredConstructors();
        due(made.length == 1 && made[0].getParameterCount() == 0 && Modifier.isPublic(made[0].getModifiers()),
                "rule 1: the constructor");
        for (Method m : c.getDeclaredMethods())
            due(!Modifier.isPrivate(m.getModifiers()) || !publicNames.contains(m.getName()), "rule 1: private " + m);
        for (Class<?> inside : c.getDeclaredClasses())
            for (Method m : inside.getDeclaredMethods()) due(!publicNames.contains(m.getName()), "rule 1: " + m);
        for (Field f : c.getDeclaredFields()) due(Modifier.isPrivate(f.getModifiers()), "rule 1: " + f);
    }

    private static void classes() {
        Class<?>[] inside = CrowdOut.class.getDeclaredClasses();
        due(inside.length + 1 <= 12, "rule 11: classes");
        fields(CrowdOut.class);
        for (Class<?> c : inside) {
            due(Modifier.isStatic(c.getModifiers()), "rule 2: " + c + " is not static");
            fields(c);
        }
    }

    private static void fields(Class<?> c) {
        int own = 0;
        for (Field f : c.getDeclaredFields()) {
            boolean fixed = Modifier.isStatic(f.getModifiers());
            own += fixed ? 0 : 1;
            due(!fixed || Modifier.isFinal(f.getModifiers()), "rule 5: " + f);
        }
        due(own <= 20, "rule 11: " + c + " has " + own + " fields");
        for (Method m : c.getDeclaredMethods()) due(m.getParameterCount() <= 7, "rule 11: " + m);
    }

    private static void source(String text) {
        String bare = text.replaceAll("(?s)/\\*.*?\\*/", "").replaceAll("//[^\n]*", "");
        for (String rule : RULED_OUT) {
            Matcher m = Pattern.compile(rule).matcher(bare);
            if (m.find()) due(false, "ruled out: " + m.group());
        }
        int begin = 0;
        String[] lines = text.split("\n");
        for (int i = 0; i < lines.length; i++) {
            if (lines[i].matches("( {4}| {8})\\S.*\\) \\{")) begin = i;
            if (lines[i].matches("( {4}| {8})\\}")) due(i - begin <= 60 || lines[begin].contains("class"),
                    "rule 11: " + lines[begin].trim() + " is long");
        }
    }
}
