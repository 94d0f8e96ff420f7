import java.io.IOException;
import java.lang.management.ManagementFactory;
import java.lang.reflect.Field;
import java.lang.reflect.Method;
import java.lang.reflect.Modifier;
import java.nio.file.Files;
import java.nio.file.Path;
import java.util.ArrayList;
import java.util.List;
import java.util.Set;
import java.util.TreeSet;
import java.util.regex.Matcher;
import java.util.regex.Pattern;

/** What can be seen from outside of the rules of LANGUAGE.md, and that calls make no objects. */
public final class LanguageTests {
    private static final String FACE = "feed(int,int,int,int,int) land(int) fault() where() gate(int,int) person(int,int) firm(int,int)"
        + " commons() richest() ground() hasIf(int,int,int) can(int) errand() errandAt(int) met() movesFor(int,int)"
        + " mostBy(int,int) reach() cover() coverAt(int) stills() isStill() fairest() fairAt(int) fits() fitAt(int,int)"
        + " hungBy(int,int) look() lookLeaves() judge() apart(int,int) sentries() parts() estate(int,int) power(int,boolean)"
        + " rule() steal(int,boolean,boolean,boolean) rests(int) rest(int) holds(int,int,boolean) mean(int,boolean)"
        + " keeps(int,int,boolean) century(int,int,int) bare(int,int) hang(int,boolean) take(int) turnOver(int) gust()"
        + " seed(int) undo() image() back(int) led(int) size(int) trouble()";
    private static int wrong;

    public static void main(String[] args) throws IOException {
        face();
        classes();
        source();
        room();
        System.out.println(wrong == 0 ? "the rules are kept" : wrong + " rules are not kept");
        if (wrong != 0) {
            System.exit(1);
        }
    }

    private static void must(boolean so, String what) {
        if (!so) {
            wrong++;
            System.out.println("not kept: " + what);
        }
    }

    private static void face() {
        Set<String> publicNames = new TreeSet<>();
        Set<String> face = new TreeSet<>();
        for (Method method : HookGates.class.getDeclaredMethods()) {
            if (Modifier.isPublic(method.getModifiers())) {
                publicNames.add(method.getName());
                List<String> sorts = new ArrayList<>();
                for (Class<?> sort : method.getParameterTypes()) {
                    sorts.add(sort.getName());
                }
                face.add(method.getName() + "(" + String.join(",", sorts) + ")");
            }
        }
        must(face.equals(new TreeSet<>(List.of(FACE.split(" (?=[a-z])")))), "rule 1: the face: " + face);
        for (Method method : HookGates.class.getDeclaredMethods()) {
            boolean hidden = Modifier.isPrivate(method.getModifiers());
            must(hidden || Modifier.isPublic(method.getModifiers()), "rule 1: " + method);
            must(!hidden || !publicNames.contains(method.getName()), "rule 1: a private " + method.getName());
        }
        for (Field field : HookGates.class.getDeclaredFields()) {
            must(Modifier.isPrivate(field.getModifiers()) || field.getName().equals("NONE"), "rule 1: " + field);
        }
        for (Class<?> inside : HookGates.class.getDeclaredClasses()) {
            must(Modifier.isStatic(inside.getModifiers()) && !Modifier.isPublic(inside.getModifiers()), "rule 1: " + inside);
            for (Method method : inside.getDeclaredMethods()) {
                must(!publicNames.contains(method.getName()), "rule 1: inside, " + method.getName());
            }
        }
    }

    private static void classes() {
        List<Class<?>> all = new ArrayList<>(List.of(HookGates.class.getDeclaredClasses()));
        all.add(HookGates.class);
        must(all.size() <= 12, "rule 11: classes: " + all.size());
        for (Class<?> one : all) {
            int fields = 0;
            for (Field field : one.getDeclaredFields()) {
                boolean constant = Modifier.isStatic(field.getModifiers());
                fields += constant ? 0 : 1;
                must(!constant || Modifier.isFinal(field.getModifiers()) && field.getType() == int.class, "rule 5: " + field);
            }
            must(fields <= 20, "rule 11: fields of " + one);
            for (Method method : one.getDeclaredMethods()) {
                must(method.getParameterCount() <= 7, "rule 11: parameters of " + method);
            }
        }
    }

    private static void source() throws IOException {
        String text = Files.readString(Path.of("src/main/java/HookGates.java"));
        must(text.chars().allMatch(c -> c == '\n' || c >= 32 && c < 127), "signs of the file");
        String code = text.replaceAll("(?s)/\\*.*?\\*/", "").replaceAll("//.*", "");
        for (String word : new String[] {"catch", " try {", "->", "::", "synchronized", "assert", "finally", "instanceof",
            "package ", "while (true)", "for (;;)", "double", "float", "System", "Random", "Exact"}) {
            must(!code.contains(word), "the rules: " + word);
        }
        List<String> imports = new ArrayList<>();
        Matcher line = Pattern.compile("(?m)^import (.*);").matcher(code);
        while (line.find()) {
            imports.add(line.group(1));
        }
        must(imports.equals(List.of("java.util.NoSuchElementException")), "rule 4: imports " + imports);
        Matcher calls = Pattern.compile("\\b(Math|Integer|Long|Arrays)\\.(\\w+)").matcher(code);
        while (calls.find()) {
            must(Set.of("min", "max", "bitCount").contains(calls.group(2)), "rule 4: " + calls.group());
        }
        Matcher methods = Pattern.compile("(?m)^( +)[\\w\\[\\] ]+\\([^;=]*\\) (throws \\w+ )?\\{\\n((?:.*\\n)*?)\\1\\}").matcher(code);
        while (methods.find()) {
            int lines = methods.group(3).split("\n").length;
            must(lines <= 60, "rule 11: " + lines + " lines in " + methods.group().lines().findFirst());
        }
    }

    /** All calls of a run live in one room: what an object makes, it makes when it is made. */
    private static void room() {
        com.sun.management.ThreadMXBean bean = (com.sun.management.ThreadMXBean) ManagementFactory.getThreadMXBean();
        long me = Thread.currentThread().getId();
        dearCalls(new HookGates());
        long before = bean.getThreadAllocatedBytes(me);
        HookGates x = new HookGates();
        long made = bean.getThreadAllocatedBytes(me) - before;
        must(made > 0 && made < 40000, "rule 12: bytes of a new object: " + made);
        before = bean.getThreadAllocatedBytes(me);
        int answers = dearCalls(x);
        long more = bean.getThreadAllocatedBytes(me) - before;
        must(answers != 0 && more < 2000, "rule 12: bytes of calls: " + more);
    }

    /** "land hooks 6 gust 9;person p;firm f p;gate a odd f worth 9 none" and 450 calls. */
    private static int dearCalls(HookGates x) {
        x.feed(0x6c616e64, 0x20686f6f, 0x6b732036, 0x20677573, 0x7420393b);
        x.feed(0x70657273, 0x6f6e2070, 0x3b666972, 0x6d206620, 0x703b6761);
        x.feed(0x74652061, 0x206f6464, 0x20662077, 0x6f727468, 0x2039206e);
        x.feed(0x6f6e6520, 0x20202020, 0x20202020, 0x20202020, 0x20202020);
        int sum = x.land(80);
        for (int i = 0; i < 25; i++) {
            sum += x.hang(0, i % 2 == 0) ? 1 : 0;
            sum += x.errand() + x.errandAt(0) + x.movesFor(0, 5) + x.mostBy(0, 20) + x.reach() + x.cover() + x.stills();
            sum += x.fairest() + x.fits() + x.look() + x.sentries() + x.rule() + x.gust() + x.image();
            sum += (int) (x.power(0, true) + x.keeps(0, 9, true)) + x.bare(1, 60);
            sum += x.undo() && x.take(0) ? 1 : 0;
        }
        return sum;
    }
}
