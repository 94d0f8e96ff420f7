/** Promises 14 to 35 and what definition III says of them: each sentence that names a boundary case, by a test of its own. */
public final class SearchBoundTests extends Checks {
    /** One man, six gates worth 99 each, no hook hangs and six lie on the ground. */
    private static final String RICH = withGates(withPeople("land hooks 6 gust 0", 1), 6, "plain f worth 99 none");
    /** One man, three gates without a hook that he wants, three of which each has one. */
    private static final String FAR = withGates(withPeople("land hooks 0 gust 0", 1), 3, "plain f worth 1 none")
        + ";gate x plain f worth 1 ahead;gate y plain f worth 1 behind;gate z plain f worth 1 ahead;wants pa ga;wants pa gc;wants pa gb";
    private static final String TWO = "land hooks 0 gust 0;person p;person q;firm f p,q";
    private static final int[] NO_GATES_OF_SIX = {Integer.MIN_VALUE, -1, 6, 7, Integer.MAX_VALUE};
    private static final int[] NO_PEOPLE_OF_FIVE = {Integer.MIN_VALUE, -1, 5, 6, Integer.MAX_VALUE};

    public static void main(String[] args) {
        errand();
        errandRows();
        errandAt();
        met();
        movesFor();
        mostBy();
        reach();
        cover();
        coverAt();
        stills();
        isStill();
        fairest();
        fairAt();
        fits();
        fitAt();
        hungBy();
        look();
        judge();
        apart();
        sentries();
        parts();
        estate();
        finish(14, 35);
    }

    private static String with(String text, String hook) {
        return text.replace("none", hook);
    }

    // ---- errands

    private static void errand() {
        sentence(14, "NONE: 1 (no LAND)", x -> refused(x, "errand", x.errand(), 1));
        sentence(14, "the fewest MOVES: none, as nothing is wanted", ONE, x -> granted(x, "errand", x.errand(), 0));
        sentence(14, "the fewest MOVES: none, as all wants are met", with(ONE, "ahead") + ";wants p a;alone p a",
            x -> granted(x, "errand", x.errand(), 0));
        sentence(14, "the fewest MOVES: one", ONE.replace("hooks 0", "hooks 1") + ";wants p a",
            x -> granted(x, "errand", x.errand(), 1));
        sentence(14, "the fewest MOVES: six", FAR, x -> granted(x, "errand", x.errand(), 6));
        sentence(14, "-2 it can't be: no hook", ONE + ";wants p a", x -> granted(x, "errand", x.errand(), -2));
        sentence(14, "-2 it can't be: one hook too few", FAR.replace("z plain f worth 1 ahead", "z plain f worth 1 none"),
            x -> granted(x, "errand", x.errand(), -2));
        sentence(14, "-2 it can't be: the hook is at a guarded gate", ONE + ";gate b guarded f worth 5 ahead;wants p a",
            x -> granted(x, "errand", x.errand(), -2));
        sentence(14, "-2 it can't be: a guarded gate is wanted",
            ONE.replace("plain", "guarded").replace("hooks 0", "hooks 6") + ";wants p a", x -> granted(x, "errand", x.errand(), -2));
        sentence(14, "-2 it can't be: another man of the firm wants it alone", TWO + ";gate a plain f worth 1 ahead;wants p a;alone q a",
            x -> granted(x, "errand", x.errand(), -2));
        sentence(14, "-2 it can't be: one of no firm wants it", ONE.replace("hooks 0", "hooks 6") + ";person q;wants q a",
            x -> granted(x, "errand", x.errand(), -2));
        sentence(14, "all wants are met: the last of four too", FAR.replace("hooks 0", "hooks 1") + ";wants pa z",
            x -> granted(x, "errand", x.errand(), 5));
        sentence(14, "From NOW", ONE + ";wants p a;gate b plain f worth 1 ahead", x -> {
            due("taken and hung", x.errand(), 2);
            x.take(1);
            due("hung", x.errand(), 1);
            x.hang(0, true);
            due("met", x.errand(), 0);
            x.undo();
            due("undone", x.errand(), 1);
            x.image();
            x.undo();
            due("undone", x.errand(), 2);
            x.back(0);
            due("gone back", x.errand(), 1);
        });
    }

    private static void errandRows() {
        sentence(14, "all who want are among OWNERS: with another one", TWO + ";gate a plain f worth 1 behind;wants q a;wants p a",
            x -> granted(x, "errand", x.errand(), 0));
        sentence(14, "all who want alone are the only ones: not with another one", TWO + ";gate a plain f worth 1 behind;alone p a", x -> {
            granted(x, "errand", x.errand(), 1);
            granted(x, "TURN", x.errandAt(0), 3);
        });
        sentence(14, "all who want alone are the only ones: the only one of a firm", with(ONE, "behind") + ";alone p a",
            x -> granted(x, "errand", x.errand(), 0));
        sentence(14, "of like ones the first row: HANG ahead, not behind", ONE.replace("hooks 0", "hooks 1") + ";wants p a",
            x -> granted(x, "HANG ahead", x.errandAt(0), 0));
        sentence(14, "of like ones the first row: HANG behind, if only that will do",
            TWO.replace("hooks 0", "hooks 1") + ";gate a plain f worth 1 none;wants q a", x -> granted(x, "HANG behind", x.errandAt(0), 1));
        sentence(14, "of like ones the first row: TAKE, not TURN", TWO + ";gate a odd f worth 1 behind;wants p a",
            x -> granted(x, "TAKE", x.errandAt(0), 2));
        sentence(14, "of like ones the first row: TURN, if only that will do", TWO + ";gate a odd f worth 1 behind;wants q a",
            x -> granted(x, "TURN", x.errandAt(0), 3));
        sentence(14, "of like ones the first row: MOVES in any order by their numbers", FOUR, x -> {
            granted(x, "HANG ahead at d", x.errandAt(0), 3);
            granted(x, "TURN at a", x.errandAt(1), 12);
        });
        sentence(14, "of like ones the first row: the first of hooks that may be taken", FAR.replace("wants pa gc;wants pa gb", "lost ga"), x -> {
            due("errand", x.errand(), 2);
            due("TAKE at x", x.errandAt(0), 15);
            due("HANG ahead at ga", x.errandAt(1), 0);
        });
    }

    private static void errandAt() {
        sentence(15, "NONE: 1 (no LAND)", x -> refused(x, "errandAt(0)", x.errandAt(0), 1));
        int[] row = {15, 0, 16, 1, 17, 2};
        for (int i = 0; i < 6; i++) {
            int at = i;
            sentence(15, "The i-th MOVE of it: " + i + " of six", FAR, x -> granted(x, "errandAt", x.errandAt(at), row[at]));
        }
        for (int i : NO_GATES_OF_SIX) {
            sentence(15, "NONE: 1 (i, too): " + i + " of six", FAR, x -> refused(x, "errandAt", x.errandAt(i), 1));
        }
        for (int i : new int[] {-1, 0, 1}) {
            sentence(15, "NONE: 1 (i, too): " + i + " of none", ONE, x -> refused(x, "errandAt", x.errandAt(i), 1));
            sentence(15, "NONE: 1 (it can't be): " + i, ONE + ";wants p a", x -> refused(x, "errandAt", x.errandAt(i), 1));
        }
        sentence(15, "The i-th MOVE of it: done one by one they meet all wants", FAR, x -> {
            for (int left = 6; left > 0; left--) {
                due("errand", x.errand(), left);
                int move = x.errandAt(0);
                due("a MOVE that can be done", x.can(move), 1);
                due("it is done", move >= 12 ? x.take(move - 12) : x.hang(move, false), true);
            }
            due("errand", x.errand(), 0);
            due("met", x.met(), 7);
        });
    }

    private static void met() {
        sentence(16, "NONE: 1 (no LAND)", x -> refused(x, "met", x.met(), 1));
        sentence(16, "Wants that are met: none told", ONE, x -> granted(x, "met", x.met(), 0));
        sentence(16, "Wants that are met: none of four", ONE + ";wants p a;alone p a;wants p a;alone p a",
            x -> granted(x, "met", x.met(), 0));
        sentence(16, "Wants that are met: all four", with(ONE, "ahead") + ";wants p a;alone p a;wants p a;alone p a",
            x -> granted(x, "met", x.met(), 15));
        String two = TWO + ";gate a plain f worth 1 ahead";
        sentence(16, "Wants, as told: the first alone", two + ";alone p a;alone q a;wants q a;wants q a",
            x -> granted(x, "met", x.met(), 1));
        sentence(16, "Wants, as told: the last alone", two + ";wants q a;alone q a;wants q a;wants p a",
            x -> granted(x, "met", x.met(), 8));
        sentence(16, "met NOW: among OWNERS, not the only one", two + ";wants p a;alone p a;wants q a;alone q a", x -> {
            due("ahead", x.met(), 3);
            x.turnOver(0);
            due("behind", x.met(), 5);
            x.take(0);
            due("none", x.met(), 0);
        });
    }

    private static void movesFor() {
        sentence(17, "NONE: 1 (no LAND)", x -> refused(x, "movesFor(0, 0)", x.movesFor(0, 0), 1));
        for (int p : NO_PEOPLE_OF_FIVE) {
            sentence(17, "NONE: 1 (a person that there isn't: " + p + ")", SIX, x -> refused(x, "movesFor", x.movesFor(p, 0), 1));
        }
        for (int much : new int[] {Integer.MIN_VALUE, -1, 600, Integer.MAX_VALUE}) {
            sentence(17, "2 (so much: " + much + ")", SIX, x -> refused(x, "movesFor", x.movesFor(0, much), 2));
            sentence(17, "1; 2 (1 is told first)", SIX, x -> refused(x, "movesFor", x.movesFor(5, much), 1));
        }
        sentence(17, "so much (0 .. 599): 0", RICH, x -> granted(x, "movesFor", x.movesFor(0, 0), 0));
        sentence(17, "so much (0 .. 599): 599", RICH, x -> granted(x, "-2", x.movesFor(0, 599), -2));
        sentence(17, "HAS so much or more: just so much", RICH, x -> {
            granted(x, "99", x.movesFor(0, 99), 1);
            granted(x, "198", x.movesFor(0, 198), 2);
            granted(x, "594", x.movesFor(0, 594), 6);
        });
        sentence(17, "HAS so much or more: one more", RICH, x -> {
            granted(x, "1", x.movesFor(0, 1), 1);
            granted(x, "100", x.movesFor(0, 100), 2);
            granted(x, "496", x.movesFor(0, 496), 6);
            granted(x, "595", x.movesFor(0, 595), -2);
        });
        sentence(17, "The fewest MOVES: none, as he HAS it", with(ONE, "ahead"), x -> {
            granted(x, "5", x.movesFor(0, 5), 0);
            granted(x, "6", x.movesFor(0, 6), -2);
        });
        sentence(17, "-2: one of no firm", ONE.replace("hooks 0", "hooks 6") + ";person q", x -> granted(x, "1", x.movesFor(1, 1), -2));
        sentence(17, "The fewest MOVES: by the last of all ways alone", withGates(withPeople("land hooks 6 gust 0", 2), 6, "plain f worth 2 none"), x -> {
            granted(x, "6", x.movesFor(1, 6), 6);
            granted(x, "7", x.movesFor(1, 7), -2);
            granted(x, "by six MOVES", x.mostBy(1, 6), 6);
            granted(x, "by five", x.mostBy(1, 5), 5);
        });
        sentence(17, "The fewest MOVES: reckoned from NOW", RICH, x -> {
            x.hang(5, true);
            due("99", x.movesFor(0, 99), 0);
            x.undo();
            due("99", x.movesFor(0, 99), 1);
        });
    }

    private static void mostBy() {
        sentence(18, "NONE: 1 (no LAND)", x -> refused(x, "mostBy(0, 0)", x.mostBy(0, 0), 1));
        for (int p : NO_PEOPLE_OF_FIVE) {
            sentence(18, "NONE: 1 (a person that there isn't: " + p + ")", SIX, x -> refused(x, "mostBy", x.mostBy(p, 0), 1));
        }
        for (int moves : new int[] {Integer.MIN_VALUE, -1, 21, Integer.MAX_VALUE}) {
            sentence(18, "2 (so many MOVES: " + moves + ")", SIX, x -> refused(x, "mostBy", x.mostBy(0, moves), 2));
            sentence(18, "1; 2 (1 is told first)", SIX, x -> refused(x, "mostBy", x.mostBy(5, moves), 1));
        }
        for (int moves = 0; moves <= 20; moves++) {
            int most = moves;
            sentence(18, "by so many MOVES (0 .. 20) at most: " + moves, RICH,
                x -> granted(x, "mostBy", x.mostBy(0, most), 99 * Math.min(6, most)));
        }
        sentence(18, "so many MOVES at most: none is better", with(ONE, "ahead"), x -> {
            granted(x, "0", x.mostBy(0, 0), 5);
            granted(x, "1", x.mostBy(0, 1), 5);
            granted(x, "20", x.mostBy(0, 20), 5);
        });
        sentence(18, "The most a person can come to HAVE: one of no firm", RICH + ";person q", x -> granted(x, "20", x.mostBy(1, 20), 0));
        sentence(18, "The most a person can come to HAVE: what he has now must first be given up",
            ONE + ";gate b plain f worth 9 ahead;gate c plain f worth 99 none", x -> {
                granted(x, "1", x.mostBy(0, 1), 9);
                granted(x, "2", x.mostBy(0, 2), 99);
            });
    }

    private static void reach() {
        sentence(19, "NONE: 1 (no LAND)", x -> refused(x, "reach", x.reach(), 1));
        sentence(19, "NOW's too: no MOVE can be done", ONE, x -> granted(x, "reach", x.reach(), 1));
        sentence(19, "NOW's too: all gates are guarded", RICH.replace("plain", "guarded"), x -> granted(x, "reach", x.reach(), 1));
        sentence(19, "How many ways: one gate, its hook hangs", with(ONE, "behind"), x -> granted(x, "reach", x.reach(), 3));
        sentence(19, "How many ways: the most", RICH, x -> granted(x, "reach", x.reach(), 729));
        sentence(19, "How many ways: the most, all hooks hang", with(RICH.replace("hooks 6", "hooks 0"), "behind"),
            x -> granted(x, "reach", x.reach(), 729));
        sentence(19, "How many ways: one hook fewer than gates", RICH.replace("hooks 6", "hooks 5"),
            x -> granted(x, "reach", x.reach(), 665));
        sentence(19, "How many ways: one hook", RICH.replace("hooks 6", "hooks 1"), x -> granted(x, "reach", x.reach(), 13));
        sentence(19, "How many ways: behind any ACTS so many", RICH.replace("hooks 6", "hooks 1"), x -> {
            x.hang(5, true);
            due("hung", x.reach(), 13);
            x.turnOver(5);
            due("turned", x.reach(), 13);
            x.take(5);
            due("taken", x.reach(), 13);
        });
    }

    // ---- covers, still ones

    private static void cover() {
        sentence(20, "NONE: 1 (no LAND)", x -> refused(x, "cover", x.cover(), 1));
        sentence(20, "with fewest hooks hung: none", ONE.replace("plain", "odd"), x -> granted(x, "cover", x.cover(), 0));
        sentence(20, "-2 it can't be: no hook", ONE, x -> granted(x, "cover", x.cover(), -2));
        sentence(20, "everybody HAS something: one by worth 1", ONE.replace("hooks 0", "hooks 1").replace("worth 5", "worth 1"),
            x -> granted(x, "cover", x.cover(), 1));
        sentence(20, "everybody HAS something: not by worth 0", ONE.replace("hooks 0", "hooks 6").replace("worth 5", "worth 0"),
            x -> granted(x, "cover", x.cover(), -2));
        sentence(20, "everybody HAS something: not by 4 by 5", withGates(withPeople("land hooks 6 gust 0", 5), 6, "plain f worth 4 none"),
            x -> granted(x, "cover", x.cover(), -2));
        sentence(20, "everybody HAS something: by 5 by 5", withPeople("land hooks 1 gust 0", 5) + ";gate a plain f worth 5 none",
            x -> granted(x, "cover", x.cover(), 1));
        sentence(20, "-2 it can't be: one of no firm", RICH + ";person q", x -> granted(x, "cover", x.cover(), -2));
        String most = "land hooks 4 gust 0;person p;person q;person r;person s;person t;firm f p;firm g q;firm h r;firm i s,t;"
            + "gate a plain f worth 1 none;gate b plain g worth 1 none;gate c plain h worth 1 none;gate d plain i worth 2 none;"
            + "gate e guarded f worth 0 ahead;gate k guarded f worth 0 behind";
        sentence(20, "how many hooks are hung (guarded ones, too): all six, as many as there are", most, x -> {
            granted(x, "cover", x.cover(), 6);
            dueRow("coverAt", row(6, x::coverAt), "111212");
        });
        sentence(20, "as many hooks as there are, on gates and the ground, at most: one too few", most.replace("hooks 4", "hooks 3"),
            x -> granted(x, "cover", x.cover(), -2));
        sentence(20, "guarded ones as NOW: their hooks can't be hung elsewhere", most.replace("hooks 4", "hooks 2"),
            x -> granted(x, "cover", x.cover(), -2));
        sentence(20, "on gates and the ground: one of each", TWO.replace("hooks 0", "hooks 1").replace("p,q", "p;firm g q")
            + ";gate a plain f worth 1 none;gate b plain g worth 1 none;gate c plain g worth 0 behind",
                x -> granted(x, "cover", x.cover(), 2));
        sentence(20, "COVER: whatever hangs NOW", with(ONE, "ahead"), x -> {
            x.take(0);
            granted(x, "cover", x.cover(), 1);
            due("coverAt", x.coverAt(0), 1);
        });
    }

    private static void coverAt() {
        sentence(21, "NONE: 1 (no LAND)", x -> refused(x, "coverAt(0)", x.coverAt(0), 1));
        for (int g : NO_GATES_OF_SIX) {
            sentence(21, "NONE: 1 (a gate that there isn't: " + g + ")", RICH, x -> refused(x, "coverAt", x.coverAt(g), 1));
            sentence(21, "NONE: 1 (though it can't be)", RICH + ";person q", x -> refused(x, "coverAt", x.coverAt(g), 1));
        }
        sentence(21, "-2", RICH + ";person q", x -> {
            for (int g = 0; g < 6; g++) {
                granted(x, "coverAt", x.coverAt(g), -2);
            }
        });
        sentence(21, "of like ones the first by gates (none, ahead, behind): one of six", RICH,
            x -> dueRow("coverAt", row(6, x::coverAt), "000001"));
        sentence(21, "of like ones the first by gates (none, ahead, behind): behind, if only that will do",
            withGates(withPeople("land hooks 6 gust 0", 2), 6, "plain f worth 99 none"),
                x -> dueRow("coverAt", row(6, x::coverAt), "000002"));
        sentence(21, "with fewest hooks hung: they count ahead of the first by gates",
            TWO.replace("hooks 0", "hooks 2") + ";firm g p;firm h q;gate a plain f worth 2 none;gate b plain g worth 1 none;gate c plain h worth 1 none", x -> {
                due("cover", x.cover(), 1);
                dueRow("coverAt", row(3, x::coverAt), "200");
            });
        sentence(21, "How a gate's hook hangs by it: a guarded one as NOW", ONE.replace("plain", "odd") + ";gate b guarded f worth 1 behind", x -> {
            due("cover", x.cover(), 1);
            dueRow("coverAt", row(2, x::coverAt), "02");
        });
    }

    private static void stills() {
        sentence(22, "NONE: 1 (no LAND)", x -> refused(x, "stills", x.stills(), 1));
        sentence(22, "How many ways: the fewest, no hook", ONE, x -> granted(x, "stills", x.stills(), 1));
        sentence(22, "How many ways: the fewest, all guarded", with(RICH, "behind").replace("plain", "guarded"),
            x -> granted(x, "stills", x.stills(), 1));
        sentence(22, "How many ways: the most", RICH, x -> granted(x, "stills", x.stills(), 729));
        sentence(22, "as many hooks as there are at most: one too few", RICH.replace("hooks 6", "hooks 5"),
            x -> granted(x, "stills", x.stills(), 665));
        sentence(22, "no OWNER would HAVE more: a plain one behind", TWO.replace("hooks 0", "hooks 1") + ";gate a plain f worth 2 none",
            x -> granted(x, "none, ahead", x.stills(), 2));
        sentence(22, "no OWNER would HAVE more: an odd one ahead", TWO.replace("hooks 0", "hooks 1") + ";gate a odd f worth 2 none",
            x -> granted(x, "none, behind", x.stills(), 2));
        sentence(22, "no OWNER would HAVE more: at a gate worth nothing", TWO.replace("hooks 0", "hooks 1") + ";gate a plain f worth 0 none",
            x -> granted(x, "all", x.stills(), 3));
        sentence(22, "STILL: whatever hangs NOW", TWO + ";gate a plain f worth 2 behind", x -> {
            due("stills", x.stills(), 2);
            x.take(0);
            due("stills", x.stills(), 2);
        });
    }

    private static void isStill() {
        sentence(23, "NONE: 1 (no LAND)", x -> refused(x, "isStill", x.isStill(), 1));
        sentence(23, "at which a hook hangs (none does)", ONE, x -> granted(x, "isStill", x.isStill(), 1));
        sentence(23, "would HAVE more: so much is not more", with(ONE, "behind"), x -> granted(x, "isStill", x.isStill(), 1));
        sentence(23, "were just that one TURNed: the head would HAVE one more", TWO + ";gate a plain f worth 1 behind",
            x -> granted(x, "isStill", x.isStill(), 0));
        sentence(23, "or TAKEn: the head would HAVE one more", TWO + ";gate a odd f worth 1 ahead",
            x -> granted(x, "isStill", x.isStill(), 0));
        sentence(23, "no OWNER: of a gate that is nobody's", TWO + ";gate a odd f worth 99 behind",
            x -> granted(x, "isStill", x.isStill(), 1));
        sentence(23, "no OWNER: another man of the firm would have more", TWO + ";gate a plain f worth 99 ahead",
            x -> granted(x, "isStill", x.isStill(), 1));
        for (String kind : new String[] {"plain", "loose"}) {
            sentence(23, "a gate that isn't guarded: " + kind, TWO + ";gate a " + kind + " f worth 99 behind",
                x -> granted(x, "isStill", x.isStill(), 0));
        }
        sentence(23, "a gate that isn't guarded", TWO + ";gate a guarded f worth 99 behind", x -> granted(x, "isStill", x.isStill(), 1));
        sentence(23, "1 if NOW's is: the last gate's hook counts too", withGates(withPeople("land hooks 0 gust 0", 2), 5, "plain f worth 9 ahead")
            + ";gate x plain f worth 9 behind", x -> {
                granted(x, "isStill", x.isStill(), 0);
                x.turnOver(5);
                granted(x, "isStill", x.isStill(), 1);
                x.turnOver(0);
                granted(x, "isStill", x.isStill(), 0);
            });
    }

    private static void fairest() {
        sentence(24, "NONE: 1 (no LAND)", x -> refused(x, "fairest", x.fairest(), 1));
        sentence(24, "who HAS least HAS most: nothing", ONE, x -> granted(x, "fairest", x.fairest(), 0));
        sentence(24, "who HAS least HAS most: one of no firm HAS nothing", RICH + ";person q", x -> granted(x, "fairest", x.fairest(), 0));
        sentence(24, "who HAS least HAS most: the most there is", RICH, x -> granted(x, "fairest", x.fairest(), 594));
        sentence(24, "(likewise) as many hooks as there are at most", RICH.replace("hooks 6", "hooks 5"),
            x -> granted(x, "fairest", x.fairest(), 495));
        sentence(24, "(likewise) guarded ones as NOW", RICH.replace("plain", "guarded"), x -> granted(x, "fairest", x.fairest(), 0));
        sentence(24, "who HAS least: of five, downwards", withGates(withPeople("land hooks 6 gust 0", 5), 6, "plain f worth 9 none"),
            x -> granted(x, "six times 9 by 5", x.fairest(), 6));
        sentence(24, "The way of all: whatever hangs NOW", with(ONE, "ahead"), x -> {
            x.take(0);
            granted(x, "fairest", x.fairest(), 5);
        });
    }

    private static void fairAt() {
        sentence(25, "NONE: 1 (no LAND)", x -> refused(x, "fairAt(0)", x.fairAt(0), 1));
        for (int g : NO_GATES_OF_SIX) {
            sentence(25, "NONE: 1 (a gate that there isn't: " + g + ")", RICH, x -> refused(x, "fairAt", x.fairAt(g), 1));
        }
        sentence(25, "the first such, by gates: of all ways, as all are alike", with(RICH, "behind").replace("worth 99", "worth 0"),
            x -> dueRow("fairAt", row(6, x::fairAt), "000000"));
        sentence(25, "the first such, by gates: ahead, not behind", RICH, x -> dueRow("fairAt", row(6, x::fairAt), "111111"));
        sentence(25, "the first such, by gates: the last five", RICH.replace("hooks 6", "hooks 5"),
            x -> dueRow("fairAt", row(6, x::fairAt), "011111"));
        sentence(25, "the first such, by gates: a guarded one as NOW", with(ONE, "behind").replace("plain", "guarded"),
            x -> granted(x, "fairAt", x.fairAt(0), 2));
        sentence(25, "by which who HAS least HAS most: behind", withGates(withPeople("land hooks 6 gust 0", 2), 2, "plain f worth 2 none"),
            x -> dueRow("fairAt", row(2, x::fairAt), "22"));
    }

    // ---- lost ones

    private static void fits() {
        sentence(26, "NONE: 1 (no LAND)", x -> refused(x, "fits", x.fits(), 1));
        sentence(26, "ways the lost ones may have hung: nothing lost, nothing had", ONE, x -> granted(x, "fits", x.fits(), 1));
        sentence(26, "ways the lost ones may have hung: nothing lost, had as told", with(ONE, "ahead") + ";had p 5",
            x -> granted(x, "fits", x.fits(), 1));
        sentence(26, "each who had something HAS so much: one less", with(ONE, "ahead") + ";had p 4", x -> granted(x, "fits", x.fits(), 0));
        sentence(26, "each who had something HAS so much: one more", with(ONE, "ahead") + ";had p 6", x -> granted(x, "fits", x.fits(), 0));
        sentence(26, "each who had something: 0 is so much, too", ONE + ";lost a;had p 0", x -> granted(x, "none", x.fits(), 1));
        sentence(26, "each who had something: 599", ONE + ";lost a;had p 599", x -> granted(x, "fits", x.fits(), 0));
        sentence(26, "each who had something: the second one too", TWO + ";gate a plain f worth 8 none;lost a;had p 4;had q 0",
            x -> granted(x, "fits", x.fits(), 0));
        sentence(26, "(none, ahead, behind)", ONE + ";lost a", x -> granted(x, "fits", x.fits(), 3));
        sentence(26, "ways the lost ones may have hung: the most", RICH + ";lost ga;lost gb;lost gc;lost gf",
            x -> granted(x, "fits", x.fits(), 81));
        sentence(26, "whatever hooks there are", RICH.replace("hooks 6", "hooks 0") + ";lost ga;lost gb;lost gc;lost gf;had pa 396",
            x -> granted(x, "ahead or behind, four times", x.fits(), 16));
        sentence(26, "the others as told", with(ONE, "ahead") + ";gate b plain f worth 1 none;lost b;had p 6",
            x -> granted(x, "fits", x.fits(), 2));
        sentence(26, "at first: guarded ones, too", ONE.replace("plain", "guarded") + ";lost a;had p 5",
            x -> granted(x, "fits", x.fits(), 2));
        sentence(26, "at first: not NOW", with(ONE, "ahead") + ";had p 5", x -> {
            x.take(0);
            granted(x, "fits", x.fits(), 1);
        });
    }

    private static void fitAt() {
        sentence(27, "NONE: 1 (no LAND)", x -> refused(x, "fitAt(0, 0)", x.fitAt(0, 0), 1));
        String most = RICH + ";lost gf;lost ga;lost gc;lost gb";
        for (int i : new int[] {Integer.MIN_VALUE, -1, 81, Integer.MAX_VALUE}) {
            sentence(27, "NONE: 1 (i: " + i + " of 81)", most, x -> refused(x, "fitAt", x.fitAt(i, 0), 1));
        }
        for (int k : new int[] {Integer.MIN_VALUE, -1, 4, Integer.MAX_VALUE}) {
            sentence(27, "NONE: 1 (k: " + k + " of four)", most, x -> refused(x, "fitAt", x.fitAt(0, k), 1));
        }
        sentence(27, "NONE: 1 (i of no FITS)", ONE + ";lost a;had p 1", x -> refused(x, "fitAt(0, 0)", x.fitAt(0, 0), 1));
        sentence(27, "NONE: 1 (k, though there is one of FITS: nothing lost)", ONE, x -> refused(x, "fitAt(0, 0)", x.fitAt(0, 0), 1));
        sentence(27, "by the i-th: the first", most, x -> dueRow("fitAt", row(4, k -> x.fitAt(0, k)), "0000"));
        sentence(27, "by the i-th: the last", most, x -> dueRow("fitAt", row(4, k -> x.fitAt(80, k)), "2222"));
        sentence(27, "the first lost one counts most, the last one least", most, x -> {
            dueRow("second", row(4, k -> x.fitAt(1, k)), "0001");
            dueRow("fourth", row(4, k -> x.fitAt(3, k)), "0010");
            dueRow("28th", row(4, k -> x.fitAt(27, k)), "1000");
            dueRow("80th", row(4, k -> x.fitAt(79, k)), "2221");
        });
        sentence(27, "the k-th lost one, as it was told to be", ONE + ";gate b plain f worth 9 none;lost b;lost a;had p 9", x -> {
            dueRow("first", row(2, k -> x.fitAt(0, k)), "10");
            dueRow("second", row(2, k -> x.fitAt(1, k)), "20");
            refused(x, "third", x.fitAt(2, 0), 1);
        });
        sentence(27, "How the k-th lost one hung: none", ONE + ";lost a;had p 0",
            x -> granted(x, "none", x.fitAt(0, 0), 0));
    }

    private static void hungBy() {
        sentence(28, "NONE: 1 (no LAND)", x -> refused(x, "hungBy(0, 0)", x.hungBy(0, 0), 1));
        sentence(28, "NONE: 1 (k: nothing lost)", ONE, x -> refused(x, "hungBy(0, 0)", x.hungBy(0, 0), 1));
        String most = RICH + ";lost gf;lost ga;lost gc;lost gb";
        for (int k : new int[] {Integer.MIN_VALUE, -1, 4, Integer.MAX_VALUE}) {
            sentence(28, "NONE: 1 (k: " + k + " of four)", most, x -> refused(x, "hungBy", x.hungBy(k, 0), 1));
        }
        for (int hung : new int[] {Integer.MIN_VALUE, -1, 3, Integer.MAX_VALUE}) {
            sentence(28, "2 (hung so: " + hung + ")", most, x -> refused(x, "hungBy", x.hungBy(0, hung), 2));
            sentence(28, "1 (k); 2 (1 is told first)", most, x -> refused(x, "hungBy", x.hungBy(4, hung), 1));
        }
        for (int hung = 0; hung <= 2; hung++) {
            int so = hung;
            sentence(28, "By how many of them: a third each", most, x -> {
                granted(x, "the first", x.hungBy(0, so), 27);
                granted(x, "the last", x.hungBy(3, so), 27);
            });
            sentence(28, "By how many of them: of none", ONE + ";lost a;had p 1", x -> granted(x, "hungBy", x.hungBy(0, so), 0));
            sentence(28, "By how many of them: all of them hung so, or none", ONE + ";lost a;had p 0",
                x -> granted(x, "hungBy", x.hungBy(0, so), so == 0 ? 1 : 0));
        }
    }

    private static void look() {
        sentence(29, "NONE: 1 (no LAND)", x -> refused(x, "look", x.look(), 1));
        sentence(30, "NONE: 1 (no LAND)", x -> refused(x, "lookLeaves", x.lookLeaves(), 1));
        sentence(29, "-2: nothing lost", ONE, x -> granted(x, "look", x.look(), -2));
        sentence(30, "-2: nothing lost", ONE, x -> granted(x, "lookLeaves", x.lookLeaves(), -2));
        sentence(29, "-2: no FITS", ONE + ";lost a;had p 1", x -> granted(x, "look", x.look(), -2));
        sentence(30, "-2: no FITS", ONE + ";lost a;had p 1", x -> granted(x, "lookLeaves", x.lookLeaves(), -2));
        sentence(29, "-2: no FITS, nothing lost", ONE + ";had p 1", x -> granted(x, "look", x.look(), -2));
        sentence(30, "-2: no FITS, nothing lost", ONE + ";had p 1", x -> granted(x, "lookLeaves", x.lookLeaves(), -2));
        String most = RICH + ";lost gf;lost ga;lost gc;lost gb";
        sentence(29, "0 the first told so, the first such", most, x -> granted(x, "look", x.look(), 0));
        sentence(30, "at most: a third of all", most, x -> granted(x, "lookLeaves", x.lookLeaves(), 27));
        String last = "land hooks 0 gust 0;person p;firm f p;gate a plain f worth 1 none;gate b plain f worth 2 none;"
            + "gate c plain f worth 4 none;gate d plain f worth 0 none;lost a;lost b;lost c;lost d;had p 0";
        sentence(29, "which lost one: the last of four", last, x -> granted(x, "look", x.look(), 3));
        sentence(30, "at most fewest FITS are left: one of three", last, x -> granted(x, "lookLeaves", x.lookLeaves(), 1));
        sentence(29, "which lost one: told so first, though not the first gate", last.replace("lost a;lost b;lost c;lost d", "lost d;lost a"),
            x -> granted(x, "look", x.look(), 0));
        String one = ONE + ";lost a;had p 0";
        sentence(29, "one of FITS is left in any way", one, x -> granted(x, "look", x.look(), 0));
        sentence(30, "one of FITS is left in any way", one, x -> granted(x, "lookLeaves", x.lookLeaves(), 1));
        String[] hads = {"0", "8", "4"};
        for (int hung = 0; hung <= 2; hung++) {
            String had = TWO + ";gate a plain f worth 8 none;lost a;had p " + hads[hung];
            int so = hung;
            sentence(30, "it being told how it hung: by one of none, ahead, behind: " + hung, had, x -> {
                due("how it hung", x.fitAt(0, 0), so);
                granted(x, "lookLeaves", x.lookLeaves(), 1);
            });
        }
        // by a, b, c, d are left, told none, ahead, behind: 3 6 3, 9 3 0, 3 6 3, 4 4 4
        String worst = TWO + ";gate a plain f worth 1 none;gate b odd f worth 3 none;gate c odd f worth 2 none;gate d plain f worth 0 none;"
            + "lost a;lost b;lost c;lost d;had p 4";
        sentence(29, "at most fewest: what is left by chance at best doesn't count", worst, x -> granted(x, "look", x.look(), 3));
        sentence(30, "at most fewest: what is left by chance at best doesn't count", worst,
            x -> granted(x, "lookLeaves", x.lookLeaves(), 4));
        // 8 0 0, 0 4 4, 4 2 2, 4 2 2
        String mean = TWO + ";firm g q;gate a odd f worth 2 none;gate b plain g worth 1 none;gate c plain g worth 3 none;"
            + "gate d plain g worth 3 none;lost a;lost b;lost c;lost d;had p 2;had q 4";
        sentence(29, "at most fewest: fewer on the whole doesn't count, and the first such", mean, x -> granted(x, "look", x.look(), 1));
        sentence(30, "at most fewest: fewer on the whole doesn't count", mean, x -> granted(x, "lookLeaves", x.lookLeaves(), 4));
    }

    private static void judge() {
        sentence(31, "NONE: 1 (no LAND)", x -> refused(x, "judge", x.judge(), 1));
        sentence(31, "-2: nobody had", ONE, x -> granted(x, "judge", x.judge(), -2));
        sentence(31, "-2: all HAVE that", with(ONE, "ahead") + ";had p 5", x -> granted(x, "judge", x.judge(), -2));
        sentence(31, "who doesn't HAVE that: one less, one more", with(ONE, "ahead") + ";had p 4", x -> granted(x, "judge", x.judge(), 0));
        sentence(31, "who doesn't HAVE that: one less, one more", with(ONE, "ahead") + ";had p 6", x -> granted(x, "judge", x.judge(), 0));
        sentence(31, "The first who had something: 0 is so much, too", ONE + ";had p 0", x -> granted(x, "judge", x.judge(), -2));
        sentence(31, "The first who had something: 0 is so much, too", with(ONE, "ahead") + ";had p 0",
            x -> granted(x, "judge", x.judge(), 0));
        sentence(31, "The first, by numbers: the last one alone", SIX + ";had a 101;had b 52;had c 12;had d 12;had e 599",
            x -> granted(x, "judge", x.judge(), 4));
        sentence(31, "The first, by numbers: not as told", SIX + ";had e 599;had b 599;had d 599", x -> granted(x, "judge", x.judge(), 1));
        sentence(31, "as hooks hung at first: not NOW", with(ONE, "ahead") + ";had p 5", x -> {
            x.take(0);
            granted(x, "judge", x.judge(), -2);
        });
        sentence(31, "as hooks hung at first: a lost one as told", ONE + ";lost a;had p 5", x -> granted(x, "judge", x.judge(), 0));
    }

    // ---- paths, sentries

    private static final String ROW = RICH + ";path ga gb;path gb gc;path gc gd;path gd ge;path ge gf";

    private static void apart() {
        sentence(32, "NONE: 1 (no LAND)", x -> refused(x, "apart(0, 0)", x.apart(0, 0), 1));
        for (int g : NO_GATES_OF_SIX) {
            sentence(32, "NONE: 1 (a gate that there isn't: " + g + ")", ROW, x -> refused(x, "apart", x.apart(g, 0), 1));
            sentence(32, "NONE: 1 (another one that there isn't: " + g + ")", ROW, x -> refused(x, "apart", x.apart(0, g), 1));
            sentence(32, "NONE: 1 (itself, that there isn't: " + g + ")", ROW, x -> refused(x, "apart", x.apart(g, g), 1));
        }
        for (int g = 0; g < 6; g++) {
            int one = g;
            sentence(32, "0: itself", ROW, x -> granted(x, "apart", x.apart(one, one), 0));
            sentence(32, "0: itself, without paths", RICH, x -> granted(x, "apart", x.apart(one, one), 0));
            sentence(32, "The fewest paths: along a row", ROW, x -> {
                for (int other = 0; other < 6; other++) {
                    granted(x, "apart", x.apart(one, other), Math.abs(one - other));
                }
            });
        }
        sentence(32, "The fewest paths: the most, from either end", ROW, x -> {
            granted(x, "apart(0, 5)", x.apart(0, 5), 5);
            granted(x, "apart(5, 0)", x.apart(5, 0), 5);
        });
        sentence(32, "The fewest paths: round a ring the shorter way", ROW + ";path gf ga", x -> {
            granted(x, "apart(0, 5)", x.apart(0, 5), 1);
            granted(x, "apart(0, 4)", x.apart(0, 4), 2);
            granted(x, "apart(0, 3)", x.apart(0, 3), 3);
        });
        sentence(32, "-2", RICH, x -> granted(x, "apart(0, 5)", x.apart(0, 5), -2));
        sentence(32, "-2: one path is missing", ROW.replace(";path gc gd", ""), x -> {
            granted(x, "apart(2, 3)", x.apart(2, 3), -2);
            granted(x, "apart(0, 2)", x.apart(0, 2), 2);
        });
    }

    private static void sentries() {
        sentence(33, "NONE: 1 (no LAND)", x -> refused(x, "sentries", x.sentries(), 1));
        sentence(33, "The fewest gates: one of one", ONE, x -> granted(x, "sentries", x.sentries(), 1));
        sentence(33, "The fewest gates: all, without paths", RICH, x -> granted(x, "sentries", x.sentries(), 63));
        sentence(33, "each gate is one of them or has a path to one: all but one", RICH + ";path ge gf",
            x -> granted(x, "sentries", x.sentries(), 31));
        sentence(33, "each gate is one of them or has a path to one: one for all, the last gate",
            RICH + ";path gf ga;path gb gf;path gf gc;path gd gf;path gf ge", x -> granted(x, "sentries", x.sentries(), 32));
        sentence(33, "of like ones the least bits: of two", ONE + ";gate b odd f worth 1 none;path a b",
            x -> granted(x, "sentries", x.sentries(), 1));
        sentence(33, "of like ones the least bits: round a ring", ROW + ";path gf ga", x -> granted(x, "sentries", x.sentries(), 9));
        sentence(33, "The fewest gates: fewer count ahead of least bits", ROW, x -> granted(x, "sentries", x.sentries(), 18));
    }

    private static void parts() {
        sentence(34, "NONE: 1 (no LAND)", x -> refused(x, "parts", x.parts(), 1));
        sentence(34, "How many parts: one gate", ONE, x -> granted(x, "parts", x.parts(), 1));
        sentence(34, "How many parts: six, without paths", RICH, x -> granted(x, "parts", x.parts(), 6));
        sentence(34, "How many parts: one, a row", ROW, x -> granted(x, "parts", x.parts(), 1));
        sentence(34, "How many parts: one, a row that is told from its end and its middle",
            RICH + ";path gf ga;path ga ge;path gb ge;path gb gd;path gd gc", x -> granted(x, "parts", x.parts(), 1));
        sentence(34, "each without a path to another one: one path", RICH + ";path gf ga", x -> granted(x, "parts", x.parts(), 5));
        sentence(34, "each without a path to another one: paths that close a ring part nothing less", RICH + ";path ga gb;path gb gc;path gc ga",
            x -> granted(x, "parts", x.parts(), 4));
    }

    private static void estate() {
        sentence(35, "NONE: 1 (no LAND)", x -> refused(x, "estate(0, 0)", x.estate(0, 0), 1));
        for (int p : NO_PEOPLE_OF_FIVE) {
            sentence(35, "NONE: 1 (a person that there isn't: " + p + ")", SIX, x -> refused(x, "estate", x.estate(p, 0), 1));
        }
        for (int g : NO_GATES_OF_SIX) {
            sentence(35, "NONE: 1 (a gate that there isn't: " + g + ")", SIX, x -> refused(x, "estate", x.estate(0, g), 1));
        }
        sentence(35, "0 if he doesn't own that", ROW, x -> granted(x, "estate", x.estate(0, 0), 0));
        sentence(35, "0 if he doesn't own that: though he owns what lies beside it", with(ROW, "ahead"), x -> {
            x.take(2);
            granted(x, "estate(0, 2)", x.estate(0, 2), 0);
        });
        sentence(35, "gates that hang together by paths: all, from either end", with(ROW, "ahead"), x -> {
            granted(x, "estate(0, 0)", x.estate(0, 0), 594);
            granted(x, "estate(0, 5)", x.estate(0, 5), 594);
        });
        sentence(35, "gates that hang together by paths: that one alone, without paths", with(RICH, "ahead"),
            x -> granted(x, "estate(0, 5)", x.estate(0, 5), 99));
        sentence(35, "through gates he OWNS: not through another's", with(ROW, "ahead"), x -> {
            x.take(2);
            granted(x, "two on this side", x.estate(0, 0), 198);
            granted(x, "three on that side", x.estate(0, 5), 297);
        });
        sentence(35, "What a person HAS by gates: with another one half", withGates(withPeople("land hooks 0 gust 0", 2), 2, "plain f worth 9 behind")
            + ";path ga gb", x -> granted(x, "estate(1, 0)", x.estate(1, 0), 8));
        sentence(35, "What a person HAS by gates: through one that is worth nothing",
            "land hooks 0 gust 0;person p;firm f p;gate a plain f worth 5 ahead;gate b plain f worth 0 ahead;gate c plain f worth 7 ahead;"
                + "path a b;path b c", x -> {
                    granted(x, "estate(0, 0)", x.estate(0, 0), 12);
                    granted(x, "estate(0, 1)", x.estate(0, 1), 12);
                });
    }
}
