/** Promises 6 to 13 and definition II: each sentence that names a boundary case, by a test of its own. */
public final class NowBoundTests extends Checks {
    /** Firm f of two, q its head, and a gate of each kind; six hooks on the ground. */
    private static final String KINDS = "land hooks 6 gust 0;person p;person q;firm f q,p;gate a plain f worth 8 none;"
        + "gate b odd f worth 8 none;gate c guarded f worth 8 none;gate d loose f worth 8 none";
    private static final int PLAIN = 0;
    private static final int ODD = 1;
    private static final int GUARDED = 2;
    private static final int LOOSE = 3;
    private static final int NOBODY = 0;
    private static final int HEAD = 2;
    private static final int ALL = 3;

    public static void main(String[] args) {
        owners();
        shares();
        moves();
        movesDone();
        gate();
        person();
        firm();
        commons();
        richest();
        ground();
        hasIf();
        can();
        now();
        finish(6, 13);
    }

    // ---- definition II

    private static void owners() {
        for (int g : new int[] {PLAIN, GUARDED, LOOSE}) {
            owned("its hook ahead: the head of its firm alone", g, "ahead", HEAD);
            owned("behind: all of the firm", g, "behind", ALL);
            owned("none: nobody", g, "none", NOBODY);
        }
        owned("an odd one: ahead: all of the firm", ODD, "ahead", ALL);
        owned("an odd one: behind: nobody", ODD, "behind", NOBODY);
        owned("an odd one: none: the head alone", ODD, "none", HEAD);
        sentence(6, "OWNERS, as bits: a firm of one", ONE.replace("none", "behind"), x -> due("OWNERS", x.gate(0, 4), 1));
        sentence(6, "OWNERS, as bits: a firm of five, its head the last one",
            withPeople("land hooks 0 gust 0", 5) + ";firm g pe,pd,pc,pb,pa;gate a odd g worth 1 ahead;gate b odd g worth 1 none", x -> {
                due("all", x.gate(0, 4), 31);
                due("the head", x.gate(1, 4), 16);
            });
    }

    private static void owned(String words, int g, String hook, int due) {
        String text = withKind(g, hook);
        sentence(6, words, text, x -> {
            due("OWNERS", x.gate(g, 4), due);
            due("what the head HAS", x.person(1, 0), (due == HEAD ? 8 : due == ALL ? 4 : 0) + (g == ODD ? 0 : 8));
            due("what the other one HAS", x.person(0, 0), due == ALL ? 4 : 0);
        });
    }

    private static String withKind(int g, String hook) {
        String[] lines = KINDS.split(";");
        int line = lines.length - 4 + g;
        lines[line] = lines[line].replace("none", hook);
        return String.join(";", lines);
    }

    private static void shares() {
        int[] dues = {99, 49, 33, 24, 19};
        for (int k = 1; k <= 5; k++) {
            int all = k;
            sentence(7, "Each of k OWNERS HAS its worth by k of it, downwards: 99 by " + k,
                withPeople("land hooks 0 gust 0", k) + ";gate a plain f worth 99 behind", x -> {
                    for (int p = 0; p < all; p++) {
                        due("person " + p, x.person(p, 0), dues[all - 1]);
                    }
                });
        }
        for (int worth : new int[] {0, 4}) {
            sentence(7, "by k of it, downwards: " + worth + " by 5 is nothing",
                withPeople("land hooks 0 gust 0", 5) + ";gate a plain f worth " + worth + " behind", x -> {
                    due("what one HAS", x.person(4, 0), 0);
                    due("he is an OWNER all the same", x.person(4, 1), 1);
                });
        }
        sentence(7, "by k of it, downwards: 5 by 5", withPeople("land hooks 0 gust 0", 5) + ";gate a plain f worth 5 behind",
            x -> due("what one HAS", x.person(4, 0), 1));
        sentence(7, "by k of it, downwards: of each gate by itself",
            withGates(withPeople("land hooks 0 gust 0", 2), 6, "plain f worth 1 behind"), x -> due("six halves", x.person(0, 0), 0));
        sentence(7, "a person HAS what he has of all gates: the most",
            withGates(withPeople("land hooks 0 gust 0", 1), 6, "plain f worth 99 ahead"), x -> due("six times 99", x.person(0, 0), 594));
        sentence(7, "a person HAS what he has of all gates: of none",
            withGates(withPeople("land hooks 0 gust 0", 1), 6, "plain f worth 99 none"), x -> due("nothing", x.person(0, 0), 0));
    }

    private static void moves() {
        sentence(13, "numbered by gates, then: one gate, a hook on the ground", ONE.replace("hooks 0", "hooks 1"),
            x -> dueRow("can", row(4, x::can), "1100"));
        sentence(13, "HANG: one lies on the ground (none does)", ONE, x -> dueRow("can", row(4, x::can), "0000"));
        sentence(13, "HANG: no hook hangs there (one does)", ONE.replace("hooks 0", "hooks 1").replace("none", "ahead"),
            x -> dueRow("can", row(4, x::can), "0011"));
        sentence(13, "TURN: one hangs, ahead or behind", ONE.replace("none", "behind"), x -> dueRow("can", row(4, x::can), "0011"));
        for (String hook : new String[] {"none", "ahead", "behind"}) {
            sentence(13, "At a guarded gate none can be done: " + hook,
                ONE.replace("hooks 0", "hooks 6").replace("plain", "guarded").replace("none", hook),
                x -> dueRow("can", row(4, x::can), "0000"));
        }
        sentence(13, "so many more as there are gates, twice so many, three times so many: six gates",
            "land hooks 1 gust 0;person p;firm f p;gate a plain f worth 1 none;gate b odd f worth 1 ahead;gate c loose f worth 1 behind;"
                + "gate d guarded f worth 1 ahead;gate e guarded f worth 1 none;gate g plain f worth 1 none",
            x -> dueRow("can", row(24, x::can), "100001" + "100001" + "011000" + "011000"));
    }

    private static void movesDone() {
        sentence(13, "HANG ahead: none lies on the ground then", ONE.replace("hooks 0", "hooks 1"), x -> {
            granted(x, "hang", x.hang(0, false));
            due("how it hangs", x.gate(0, 3), 1);
            due("ground", x.ground(), 0);
            dueRow("can", row(4, x::can), "0011");
        });
        sentence(13, "TAKE it off: it lies on the ground then", ONE.replace("none", "ahead"), x -> {
            granted(x, "take", x.take(0));
            due("ground", x.ground(), 1);
            dueRow("can", row(4, x::can), "1100");
        });
        sentence(13, "TURN: the other way then (and round again)", ONE.replace("none", "ahead"), x -> {
            granted(x, "turnOver", x.turnOver(0), 2);
            granted(x, "turnOver", x.turnOver(0), 1);
            due("how it hangs", x.gate(0, 3), 1);
            due("ground", x.ground(), 0);
        });
        sentence(13, "HANG, TAKE: over and over no hook is lost or won", ONE.replace("hooks 0", "hooks 1"), x -> {
            for (int i = 0; i < 50; i++) {
                due("hang", x.hang(0, i % 2 == 0), true);
                due("ground", x.ground(), 0);
                due("take", x.take(0), true);
                due("ground", x.ground(), 1);
            }
        });
    }

    // ---- promises 6 to 13

    private static void gate() {
        for (int g : new int[] {Integer.MIN_VALUE, -1, 6, 7, Integer.MAX_VALUE}) {
            sentence(6, "NONE: 1 (a gate that there isn't: " + g + ")", SIX, x -> {
                for (int what = 0; what <= 5; what++) {
                    refused(x, "gate", x.gate(g, what), 1);
                }
            });
        }
        for (int what : new int[] {Integer.MIN_VALUE, -1, 6, Integer.MAX_VALUE}) {
            sentence(6, "NONE: 1 (what there isn't: " + what + ")", SIX, x -> refused(x, "gate", x.gate(0, what), 1));
        }
        sentence(6, "NONE: 1 (no LAND)", x -> refused(x, "gate(0, 0)", x.gate(0, 0), 1));
        sentence(6, "NONE: 1 (a second gate where there is one)", ONE, x -> refused(x, "gate(1, 0)", x.gate(1, 0), 1));
        for (int g : new int[] {0, 5}) {
            sentence(6, "Of a gate: the first and the last", SIX, x -> {
                granted(x, "KIND", x.gate(g, 0), g == 0 ? PLAIN : GUARDED);
                granted(x, "firm", x.gate(g, 1), 0);
                granted(x, "worth", x.gate(g, 2), g == 0 ? 99 : 8);
                granted(x, "hook", x.gate(g, 3), g == 0 ? 1 : 0);
                granted(x, "OWNERS", x.gate(g, 4), g == 0 ? 1 : 0);
                granted(x, "paths", x.gate(g, 5), g == 0 ? 34 : 17);
            });
        }
        sentence(6, "1 its firm (the last of four)", SIX, x -> due("firm", x.gate(3, 1), 3));
        sentence(6, "3 how its hook hangs NOW (not as told)", FOUR, x -> {
            x.take(0);
            x.turnOver(1);
            x.hang(3, true);
            dueRow("hooks", hungs(x, 4), "0122");
        });
        sentence(6, "5 gates with a path to it: none", ONE, x -> due("paths", x.gate(0, 5), 0));
        sentence(6, "5 gates with a path to it: all others, by whichever of both the path was told first",
            withGates(withPeople("land hooks 0 gust 0", 1), 6, "odd f worth 1 none")
                + ";path ga gb;path gc ga;path ga gd;path ge ga;path ga gf", x -> {
                    due("paths of the first", x.gate(0, 5), 62);
                    for (int g = 1; g < 6; g++) {
                        due("paths of another", x.gate(g, 5), 1);
                    }
                });
    }

    private static void person() {
        for (int p : new int[] {Integer.MIN_VALUE, -1, 5, 6, Integer.MAX_VALUE}) {
            sentence(7, "NONE: 1 (a person that there isn't: " + p + ")", SIX, x -> {
                for (int what = 0; what <= 3; what++) {
                    refused(x, "person", x.person(p, what), 1);
                }
            });
        }
        for (int what : new int[] {Integer.MIN_VALUE, -1, 4, Integer.MAX_VALUE}) {
            sentence(7, "NONE: 1 (what there isn't: " + what + ")", SIX, x -> refused(x, "person", x.person(0, what), 1));
        }
        sentence(7, "NONE: 1 (no LAND)", x -> refused(x, "person(0, 0)", x.person(0, 0), 1));
        sentence(7, "NONE: 1 (a second person where there is one)", ONE, x -> refused(x, "person(1, 0)", x.person(1, 0), 1));
        sentence(7, "Of a person: the first", SIX, x -> {
            granted(x, "HAS", x.person(0, 0), 101);
            granted(x, "OWNS", x.person(0, 1), 25);
            granted(x, "OWNS alone", x.person(0, 2), 1);
            granted(x, "firms", x.person(0, 3), 9);
        });
        sentence(7, "Of a person: the last", SIX, x -> {
            granted(x, "HAS", x.person(4, 0), 12);
            granted(x, "OWNS", x.person(4, 1), 28);
            granted(x, "OWNS alone", x.person(4, 2), 0);
            granted(x, "firms", x.person(4, 3), 12);
        });
        sentence(7, "1 gates he OWNS, 2 alone: all", withGates(withPeople("land hooks 0 gust 0", 1), 6, "plain f worth 1 behind"), x -> {
            due("OWNS", x.person(0, 1), 63);
            due("OWNS alone, as the only one of the firm", x.person(0, 2), 63);
        });
        sentence(7, "1 gates he OWNS, 2 alone: none", ONE, x -> {
            due("OWNS", x.person(0, 1), 0);
            due("OWNS alone", x.person(0, 2), 0);
        });
        sentence(7, "2 gates he OWNS alone: not with another one",
            withGates(withPeople("land hooks 0 gust 0", 2), 6, "plain f worth 1 behind"), x -> {
                due("OWNS", x.person(0, 1), 63);
                due("OWNS alone", x.person(0, 2), 0);
            });
        sentence(7, "3 firms he is of: none, all four",
            "land hooks 0 gust 0;person p;person q;firm f p;firm g p;firm h p;firm i p;gate a odd f worth 1 none", x -> {
                due("firms of p", x.person(0, 3), 15);
                due("firms of q", x.person(1, 3), 0);
            });
    }

    private static void firm() {
        for (int f : new int[] {Integer.MIN_VALUE, -1, 4, Integer.MAX_VALUE}) {
            sentence(8, "NONE: 1 (a firm that there isn't: " + f + ")", SIX, x -> {
                for (int what = 0; what <= 2; what++) {
                    refused(x, "firm", x.firm(f, what), 1);
                }
            });
        }
        for (int what : new int[] {Integer.MIN_VALUE, -1, 3, Integer.MAX_VALUE}) {
            sentence(8, "NONE: 1 (what there isn't: " + what + ")", SIX, x -> refused(x, "firm", x.firm(0, what), 1));
        }
        sentence(8, "NONE: 1 (no LAND)", x -> refused(x, "firm(0, 0)", x.firm(0, 0), 1));
        sentence(8, "NONE: 1 (a second firm where there is one)", ONE, x -> refused(x, "firm(1, 0)", x.firm(1, 0), 1));
        sentence(8, "Of a firm: the first", SIX, x -> {
            granted(x, "head", x.firm(0, 0), 0);
            granted(x, "people", x.firm(0, 1), 1);
            granted(x, "HAVE", x.firm(0, 2), 99);
        });
        sentence(8, "Of a firm: the last", SIX, x -> {
            granted(x, "head", x.firm(3, 0), 4);
            granted(x, "people", x.firm(3, 1), 31);
            granted(x, "HAVE", x.firm(3, 2), 10);
        });
        sentence(8, "2 what all of it HAVE by gates of it: nothing", ONE, x -> due("HAVE", x.firm(0, 2), 0));
        sentence(8, "2 what all of it HAVE by gates of it: a firm without gates", FOUR + ";firm h p,q,r",
            x -> due("HAVE", x.firm(2, 2), 0));
        sentence(8, "2 what all of it HAVE by gates of it: all there is",
            withGates(withPeople("land hooks 0 gust 0", 1), 6, "plain f worth 99 ahead"), x -> due("HAVE", x.firm(0, 2), 594));
        sentence(8, "2 what all of it HAVE by gates of it: each downwards",
            withPeople("land hooks 0 gust 0", 5) + ";gate a plain f worth 99 behind;gate b plain f worth 4 behind;gate c plain f worth 3 ahead",
            x -> due("five times 19, nothing, 3", x.firm(0, 2), 98));
    }

    private static void commons() {
        sentence(9, "NONE: 1 (no LAND)", x -> refused(x, "commons", x.commons(), 1));
        sentence(9, "Gates that nobody OWNS: none", ONE.replace("none", "ahead"), x -> granted(x, "commons", x.commons(), 0));
        sentence(9, "Gates that nobody OWNS: all", withGates(withPeople("land hooks 0 gust 0", 5), 6, "plain f worth 9 none"),
            x -> granted(x, "commons", x.commons(), 63));
        sentence(9, "Gates that nobody OWNS: an odd one, its hook behind", withGates(withPeople("land hooks 0 gust 0", 1), 6, "odd f worth 9 behind"),
            x -> granted(x, "commons", x.commons(), 63));
        sentence(9, "Gates that nobody OWNS: not one that is worth nothing", ONE.replace("none", "ahead").replace("worth 5", "worth 0"),
            x -> granted(x, "commons", x.commons(), 0));
    }

    private static void richest() {
        sentence(10, "NONE: 1 (no LAND)", x -> refused(x, "richest", x.richest(), 1));
        sentence(10, "The person who HAS most: all have nothing", withGates(withPeople("land hooks 0 gust 0", 5), 1, "plain f worth 9 none"),
            x -> granted(x, "the first such", x.richest(), 0));
        sentence(10, "the first such: all have so much", withGates(withPeople("land hooks 0 gust 0", 5), 1, "plain f worth 99 behind"),
            x -> granted(x, "richest", x.richest(), 0));
        sentence(10, "the first such: two have most, the first person has less",
            "land hooks 0 gust 0;person p;person q;person r;firm f p;firm g r;firm h q;gate a odd f worth 8 none;gate b odd g worth 9 none;"
                + "gate c odd h worth 9 none", x -> granted(x, "richest", x.richest(), 1));
        sentence(10, "The person who HAS most: the last one, by one more",
            withPeople("land hooks 0 gust 0", 5) + ";firm g pe;gate a plain f worth 99 behind;gate b odd g worth 1 none",
            x -> granted(x, "richest", x.richest(), 4));
    }

    private static void ground() {
        sentence(11, "NONE: 1 (no LAND)", x -> refused(x, "ground", x.ground(), 1));
        sentence(11, "Hooks on the ground: none", ONE, x -> granted(x, "ground", x.ground(), 0));
        sentence(11, "Hooks on the ground: six told so", ONE.replace("hooks 0", "hooks 6"), x -> granted(x, "ground", x.ground(), 6));
        sentence(11, "Hooks on the ground: the most, six told so and six taken",
            withGates(withPeople("land hooks 6 gust 0", 1), 6, "plain f worth 9 behind"), x -> {
                for (int g = 0; g < 6; g++) {
                    due("ground", x.ground(), 6 + g);
                    x.take(g);
                }
                granted(x, "ground", x.ground(), 12);
            });
        sentence(11, "Hooks on the ground: those that fell, too",
            withGates(withPeople("land hooks 6 gust 100", 1), 6, "plain f worth 9 behind"), x -> {
                due("gust", x.gust(), 6);
                granted(x, "ground", x.ground(), 12);
            });
        sentence(11, "Hooks on the ground: down to none", withGates(withPeople("land hooks 6 gust 0", 1), 6, "plain f worth 9 none"), x -> {
            for (int g = 0; g < 6; g++) {
                x.hang(g, g % 2 == 0);
                due("ground", x.ground(), 5 - g);
            }
        });
    }

    private static void hasIf() {
        for (int p : new int[] {Integer.MIN_VALUE, -1, 5, Integer.MAX_VALUE}) {
            sentence(12, "NONE: 1 (a person that there isn't: " + p + ")", SIX, x -> refused(x, "hasIf", x.hasIf(p, 0, 0), 1));
        }
        for (int g : new int[] {Integer.MIN_VALUE, -1, 6, Integer.MAX_VALUE}) {
            sentence(12, "NONE: 1 (a gate that there isn't: " + g + ")", SIX, x -> refused(x, "hasIf", x.hasIf(0, g, 0), 1));
        }
        for (int hung : new int[] {Integer.MIN_VALUE, -1, 3, 4, Integer.MAX_VALUE}) {
            sentence(12, "2 (a way that there isn't: " + hung + ")", SIX, x -> refused(x, "hasIf", x.hasIf(0, 0, hung), 2));
            sentence(12, "1; 2 (1 is told first)", SIX, x -> {
                refused(x, "no person", x.hasIf(5, 0, hung), 1);
                refused(x, "no gate", x.hasIf(0, 6, hung), 1);
            });
        }
        sentence(12, "NONE: 1 (no LAND)", x -> refused(x, "hasIf(0, 0, 0)", x.hasIf(0, 0, 0), 1));
        sentence(12, "if a gate's hook hung so: each way, of the first gate", SIX, x -> {
            granted(x, "none", x.hasIf(0, 0, 0), 2);
            granted(x, "ahead", x.hasIf(0, 0, 1), 101);
            granted(x, "behind", x.hasIf(0, 0, 2), 101);
        });
        sentence(12, "if a gate's hook hung so: each way, of the last person and a gate of his", SIX, x -> {
            granted(x, "none", x.hasIf(4, 4, 0), 16);
            granted(x, "ahead", x.hasIf(4, 4, 1), 12);
            granted(x, "behind", x.hasIf(4, 4, 2), 12);
        });
        sentence(12, "if a gate's hook hung so: the last gate, a guarded one", SIX, x -> granted(x, "ahead", x.hasIf(0, 5, 1), 109));
        sentence(12, "if a gate's hook hung so: though no hook lies on the ground", ONE, x -> granted(x, "ahead", x.hasIf(0, 0, 1), 5));
        sentence(12, "What a person would HAVE (nothing is done)", ONE, x -> {
            x.hasIf(0, 0, 1);
            due("hook", x.gate(0, 3), 0);
            due("HAS", x.person(0, 0), 0);
            due("acts", x.size(11), 0);
        });
        sentence(12, "What a person would HAVE: the most", withGates(withPeople("land hooks 0 gust 0", 1), 6, "odd f worth 99 none"),
            x -> granted(x, "all but none", x.hasIf(0, 5, 1), 594));
    }

    private static void can() {
        for (int move : new int[] {Integer.MIN_VALUE, -1, 4, 5, Integer.MAX_VALUE}) {
            sentence(13, "NONE: 1 (no such number: " + move + " of one gate)", ONE, x -> refused(x, "can", x.can(move), 1));
        }
        for (int move : new int[] {-1, 24, 25}) {
            sentence(13, "NONE: 1 (no such number: " + move + " of six gates)", SIX, x -> refused(x, "can", x.can(move), 1));
        }
        sentence(13, "NONE: 1 (no LAND)", x -> refused(x, "can(0)", x.can(0), 1));
        sentence(13, "1 if a MOVE can be done NOW: the first", ONE.replace("hooks 0", "hooks 1"), x -> granted(x, "can(0)", x.can(0), 1));
        sentence(13, "1 if a MOVE can be done NOW: the last",
            withGates(withPeople("land hooks 0 gust 0", 1), 6, "plain f worth 1 behind"), x -> granted(x, "can(23)", x.can(23), 1));
        sentence(13, "else 0: the first and the last", ONE, x -> {
            granted(x, "can(0)", x.can(0), 0);
            granted(x, "can(3)", x.can(3), 0);
        });
    }

    /** All of it is as hooks hang NOW, not as they were told. */
    private static void now() {
        String hung = ONE.replace("none", "ahead") + ";person q;firm g q;gate b odd g worth 9 none";
        Calls taken = x -> {
            x.take(0);
            x.hang(1, true);
        };
        sentence(7, "what he HAS, OWNS: NOW", hung, x -> {
            taken.on(x);
            due("HAS", x.person(0, 0), 0);
            due("OWNS", x.person(0, 1), 0);
            due("OWNS alone", x.person(0, 2), 0);
        });
        sentence(8, "what all of it HAVE: NOW", hung, x -> {
            due("HAVE", x.firm(0, 2), 5);
            taken.on(x);
            due("HAVE", x.firm(0, 2), 0);
        });
        sentence(9, "that nobody OWNS: NOW", hung, x -> {
            due("commons", x.commons(), 0);
            taken.on(x);
            due("commons", x.commons(), 3);
        });
        sentence(10, "who HAS most: NOW", hung, x -> {
            due("richest", x.richest(), 1);
            taken.on(x);
            due("richest", x.richest(), 0);
        });
        sentence(12, "What a person would HAVE: but for that gate as NOW", hung, x -> {
            due("hasIf", x.hasIf(0, 1, 0), 5);
            taken.on(x);
            due("hasIf", x.hasIf(0, 1, 0), 0);
        });
    }
}
