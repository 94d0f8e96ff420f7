import java.util.ArrayList;
import java.util.Collections;
import java.util.List;
import java.util.Random;

/** Random texts of LANDS, sound and spoilt. */
final class LandTexts {
    private static final String[] NAMES = {"p", "q", "ann", "hooks", "none", "worth", "plain", "x", "abcdefgh",
        "zed", "u", "v", "w", "ahead", "odd", "gust", "behind", "b", "c", "lan", "lands"};
    private static final String[] STRAY = {";", ",", "0", "999", "1000", "land", "person", "had", "abcdefghi", "p",
        "none", "A", "?", "7", "lost", "gate", "alone", "\u00e9", "\n", "600", "100", "  "};

    private LandTexts() { }

    static String sound(Random random) {
        return join(random, lines(random, false));
    }

    static String spoilt(Random random) {
        List<String> lines = lines(random, random.nextInt(3) == 0);
        if (random.nextInt(3) == 0) {
            lines.add(random.nextInt(lines.size() + 1), lines.get(random.nextInt(lines.size())));
        }
        if (random.nextInt(6) == 0) {
            lines.remove(random.nextInt(lines.size()));
        }
        String text = join(random, lines);
        for (int i = random.nextInt(3); i > 0; i--) {
            List<String> words = new ArrayList<>(List.of(text.split("(?<=[ ;,])|(?=[ ;,])")));
            int at = random.nextInt(words.size());
            switch (random.nextInt(4)) {
                case 0: words.set(at, STRAY[random.nextInt(STRAY.length)]); break;
                case 1: words.remove(at); break;
                case 2: words.add(at, " " + words.get(random.nextInt(words.size())) + " "); break;
                default: words.add(at, STRAY[random.nextInt(STRAY.length)]);
            }
            text = String.join("", words);
        }
        if (random.nextInt(4) == 0) {
            text = text.substring(0, random.nextInt(text.length() + 1));
        }
        return text.length() > 900 ? text.substring(0, 900) : text;
    }

    private static String join(Random random, List<String> lines) {
        StringBuilder text = new StringBuilder();
        for (String line : lines) {
            text.append(text.length() == 0 ? "" : random.nextInt(5) == 0 ? " ; " : ";").append(line);
        }
        return text.length() > 900 ? text.substring(0, 900) : text.toString();
    }

    /** Lines, too many of a sort too if it overflows. */
    private static List<String> lines(Random random, boolean overflows) {
        List<String> names = new ArrayList<>(List.of(NAMES));
        Collections.shuffle(names, random);
        List<String> lines = new ArrayList<>();
        int more = overflows ? 1 : 0;
        int gust = random.nextInt(3) == 0 ? random.nextInt(101) : new int[] {0, 5, 25, 50, 60, 100}[random.nextInt(6)];
        lines.add("land hooks " + random.nextInt(random.nextBoolean() ? 3 : 7) + " gust " + gust);
        List<String> people = new ArrayList<>();
        for (int i = 1 + random.nextInt(5 + more); i > 0; i--) {
            people.add(names.remove(0));
            lines.add("person " + people.get(people.size() - 1));
        }
        List<String> firms = new ArrayList<>();
        for (int i = 1 + random.nextInt(4 + more); i > 0; i--) {
            firms.add(names.remove(0));
            Collections.shuffle(people, random);
            String members = String.join(random.nextBoolean() ? "," : " , ", people.subList(0, 1 + random.nextInt(people.size())));
            lines.add("firm " + firms.get(firms.size() - 1) + " " + members);
        }
        List<String> gates = new ArrayList<>();
        for (int i = 1 + random.nextInt(6 + more); i > 0; i--) {
            gates.add(names.remove(0));
            String kind = new String[] {"plain", "odd", "guarded", "loose", "plain", "odd"}[random.nextInt(6)];
            String hook = new String[] {"none", "ahead", "behind"}[random.nextInt(3)];
            int worth = random.nextInt(random.nextBoolean() ? 100 : 8);
            lines.add("gate " + gates.get(gates.size() - 1) + " " + kind + " " + one(random, firms) + " worth " + worth + " " + hook);
        }
        List<String> rest = new ArrayList<>();
        addPaths(random, gates, rest, more);
        for (int i = random.nextInt(5 + more); i > 0; i--) {
            rest.add((random.nextInt(3) == 0 ? "alone " : "wants ") + one(random, people) + " " + one(random, gates));
        }
        Collections.shuffle(gates, random);
        for (int i = random.nextInt(Math.min(4 + more, gates.size()) + 1); i > 0; i--) {
            rest.add("lost " + gates.get(i - 1));
        }
        addHads(random, people, rest, overflows ? null : lines);
        Collections.shuffle(rest, random);
        lines.addAll(rest);
        return lines;
    }

    /** What they had, mostly by some way that hooks may have hung, so that there are FITS. */
    private static void addHads(Random random, List<String> people, List<String> rest, List<String> lines) {
        boolean consistent = lines != null && random.nextInt(4) != 0;
        List<String> told = new ArrayList<>();
        if (consistent) {
            told.addAll(lines);
            told.addAll(starting(rest, "lost "));
        }
        LandModel.Told land = consistent ? LandModel.read(String.join(";", told)) : null;
        List<Integer> hung = consistent ? LandModel.someHungAtFirst(land, random) : null;
        List<String> byNumber = starting(told, "person ");
        Collections.shuffle(people, random);
        for (int i = random.nextInt(people.size() + 1); i > 0; i--) {
            String name = people.get(i - 1);
            int much = random.nextInt(3) == 0 ? 0 : random.nextInt(random.nextBoolean() ? 10 : 60);
            if (consistent) {
                much = LandModel.has(land, byNumber.indexOf("person " + name), hung);
            }
            rest.add("had " + name + " " + much);
        }
    }

    private static List<String> starting(List<String> lines, String word) {
        List<String> some = new ArrayList<>(lines);
        some.removeIf(line -> !line.startsWith(word));
        return some;
    }

    private static void addPaths(Random random, List<String> gates, List<String> rest, int more) {
        List<String> paths = new ArrayList<>();
        for (int i = 0; i < gates.size(); i++) {
            for (int j = 0; j < i; j++) {
                boolean turned = random.nextBoolean();
                paths.add("path " + gates.get(turned ? i : j) + " " + gates.get(turned ? j : i));
            }
        }
        Collections.shuffle(paths, random);
        rest.addAll(paths.subList(0, random.nextInt(Math.min(8 + more, paths.size()) + 1)));
    }

    private static String one(Random random, List<String> of) {
        return of.get(random.nextInt(of.size()));
    }
}
