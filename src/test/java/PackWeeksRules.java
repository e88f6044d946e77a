import java.lang.management.ManagementFactory;
import java.lang.reflect.Constructor;
import java.lang.reflect.Field;
import java.lang.reflect.Method;
import java.lang.reflect.Modifier;
import java.nio.file.Files;
import java.nio.file.Paths;
import java.util.ArrayList;
import java.util.Arrays;
import java.util.List;
import java.util.Set;
import java.util.TreeSet;
import java.util.regex.Matcher;
import java.util.regex.Pattern;

/** The rules of LANGUAGE.md that a look at the class and at its text can tell. */
public final class PackWeeksRules {
    private static final String SOURCE = "src/main/java/PackWeeks.java";
    private static final String[] FACE = {"feed(long,long,long)int", "pack()int", "weeks()int", "flow(int,int)int", "open(int,int,int)int", "thing(int,int)int",
        "crew(int,int)int", "drift(int)int", "haul(int,int,int)boolean", "lend(int,int)int", "home(int)boolean", "undo()boolean", "judged(int)int",
        "where(int,int)int", "meet(int,int)int", "reach(int,int,int)int", "setout(int,int)int", "see(int,int,int)boolean", "fits()long", "tells()int",
        "lasts(int)int", "share()int", "through(int,int)int", "now(int,int,int)int", "lost(int,int)int", "code(int)int", "carry(int)int",
        "months(int,int,int)int", "mark(int,boolean)boolean", "count(int)int"};
    /** What the rules leave out, as it would stand in the text. */
    private static final String[] FORBIDDEN = {"->", "::", "\\bcatch\\b", "\\btry\\b", "\\bfinally\\b", "\\bsynchronized\\b", "\\bassert\\b", "\\bvar\\b", "\\w+Exact\\(",
        "\\bordinal\\(", "\\bname\\(\\)", "\\bhashCode\\b", "\\btoString\\b", "\\bObject\\b", "\\bInteger\\.[A-Z]", "\\bstatic \\{", "\\bwhile \\(true\\)", "\\bfor \\(;",
        "\"\\s*\\+", "\\+\\s*\"", "\\bSystem\\.(?!arraycopy)", "\\bprotected\\b", "\\bRandom\\b", "\\bdouble\\b", "\\bfloat\\b", "[^\\x0a\\x20-\\x7e]"};

    private static int wrong = 0;

    private static void say(String text) {
        wrong++;
        System.out.println(text);
    }

    private static String signature(Method m) {
        StringBuilder s = new StringBuilder(m.getName()).append('(');
        Class<?>[] types = m.getParameterTypes();
        for (int i = 0; i < types.length; i++) {
            s.append(i > 0 ? "," : "").append(types[i].getSimpleName());
        }
        return s.append(')').append(m.getReturnType().getSimpleName()).toString();
    }

    private static void lookAtFace() {
        int flags = PackWeeks.class.getModifiers();
        if (!Modifier.isPublic(flags) || !Modifier.isFinal(flags)) {
            say("rule 1: the class is not public and final");
        }
        Set<String> face = new TreeSet<>();
        Set<String> names = new TreeSet<>();
        for (String s : FACE) {
            names.add(s.substring(0, s.indexOf('(')));
        }
        for (Method m : PackWeeks.class.getDeclaredMethods()) {
            if (Modifier.isPublic(m.getModifiers())) {
                face.add(signature(m));
            } else if (!Modifier.isPrivate(m.getModifiers()) || names.contains(m.getName())) {
                say("rule 1: " + signature(m));
            }
        }
        if (!face.equals(new TreeSet<>(Arrays.asList(FACE)))) {
            say("rule 1: the face is " + face);
        }
        for (Field f : PackWeeks.class.getDeclaredFields()) {
            if (!Modifier.isPrivate(f.getModifiers()) && !f.getName().equals("NONE")) {
                say("rule 1: the field " + f.getName());
            }
        }
        Constructor<?>[] all = PackWeeks.class.getDeclaredConstructors();
        if (all.length != 1 || all[0].getParameterCount() != 0) {
            say("rule 1: constructors");
        }
        for (Class<?> c : PackWeeks.class.getDeclaredClasses()) {
            for (Method m : c.getDeclaredMethods()) {
                if (names.contains(m.getName())) {
                    say("rule 1: " + c.getSimpleName() + "." + m.getName() + " bears the name of a public method");
                }
            }
        }
    }

    private static void lookAtClasses() {
        List<Class<?>> all = new ArrayList<>(Arrays.asList(PackWeeks.class.getDeclaredClasses()));
        all.add(PackWeeks.class);
        if (all.size() > 12) {
            say("rule 11: " + all.size() + " classes");
        }
        for (Class<?> c : all) {
            int fields = 0;
            for (Field f : c.getDeclaredFields()) {
                if (!Modifier.isStatic(f.getModifiers())) {
                    fields++;
                } else if (!Modifier.isFinal(f.getModifiers())) {
                    say("rule 5: " + c.getSimpleName() + "." + f.getName());
                }
            }
            if (fields > 20) {
                say("rule 11: " + c.getSimpleName() + " has " + fields + " fields");
            }
            for (Method m : c.getDeclaredMethods()) {
                if (m.getParameterCount() > 7) {
                    say("rule 11: " + m.getName() + " takes " + m.getParameterCount());
                }
            }
        }
    }

    private static void lookAtText() throws java.io.IOException {
        String text = new String(Files.readAllBytes(Paths.get(SOURCE)), "UTF-8");
        String bare = text.replaceAll("/\\*\\*?[^*]*(\\*(?!/)[^*]*)*\\*/", "").replaceAll("//[^\n]*", "");
        for (String s : FORBIDDEN) {
            Matcher m = Pattern.compile(s).matcher(bare);
            if (m.find()) {
                say("the text has " + m.group());
            }
        }
        Matcher imports = Pattern.compile("import ([^;]*);").matcher(bare);
        while (imports.find()) {
            if (!imports.group(1).equals("java.util.NoSuchElementException")) {
                say("rule 4: " + imports.group());
            }
        }
        int start = -1;
        String[] lines = text.split("\n");
        for (int i = 0; i < lines.length; i++) {
            String line = lines[i];
            int deep = line.startsWith("        ") ? 8 : 4;
            if (line.matches("(    |        )[a-zA-Z].*\\) (throws \\w+ )?\\{") && !line.matches("\\s*(if|for|while|switch|else).*")) {
                start = i;
            }
            if (start >= 0 && line.equals((deep == 8 ? "        " : "    ") + "}")) {
                if (i - start > 60) {
                    say("rule 11: " + lines[start].trim() + " has " + (i - start) + " lines");
                }
                start = -1;
            }
        }
    }

    private static long bytesMade() {
        return ((com.sun.management.ThreadMXBean) ManagementFactory.getThreadMXBean()).getThreadAllocatedBytes(Thread.currentThread().getId());
    }

    /** All that calls need is made with the object, so that a run fits into its room. */
    private static void lookAtRoom() {
        long ahead = bytesMade();
        PackWeeks x = new PackWeeks();
        long made = bytesMade() - ahead;
        if (made > 400000) {
            say("rule 12: a new object takes " + made + " bytes");
        }
        ahead = bytesMade();
        for (int i = 0; i < 18; i++) {
            x.feed(0x6772696420382038L, 0x3B64726966742030L, 0x2065617374203020L);
            x.feed(0x373B7468696E6720L, 0x6120736869702061L, 0x742030203020203BL);
            x.pack();
            x.drift(30);
            x.mark(i & 3, (i & 1) != 0);
            x.see(0, i, 3);
            x.undo();
            x.weeks();
            for (int what = 0; what < 4; what++) {
                x.judged(what);
                x.lost(30, what);
                x.carry(what);
                x.code(what);
                x.reach(0, what, 3);
                x.through(what, 40);
            }
            x.setout(0, 1);
            x.fits();
            x.tells();
            x.months(7, 100, 0);
        }
        made = bytesMade() - ahead;
        if (made > 20000) {
            say("rule 12: calls made " + made + " bytes");
        }
    }

    public static void main(String[] args) throws java.io.IOException {
        lookAtFace();
        lookAtClasses();
        lookAtText();
        lookAtRoom();
        System.out.println(wrong == 0 ? "all rules are kept" : wrong + " rules are not kept");
        if (wrong != 0) {
            System.exit(1);
        }
    }
}
