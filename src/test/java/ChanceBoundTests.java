/** Promises 36 to 45 and what definition III says of them: each sentence that names a boundary case, by a test of its own. */
public final class ChanceBoundTests extends Checks {
    private static final int[] NO_PEOPLE_OF_FIVE = {Integer.MIN_VALUE, -1, 5, 6, Integer.MAX_VALUE};
    private static final int[] NO_SEEDS = {Integer.MIN_VALUE, -1, 65537, Integer.MAX_VALUE};
    private static final int[] NO_DRAWN_YEARS = {Integer.MIN_VALUE, -1, 61, Integer.MAX_VALUE};

    public static void main(String[] args) {
        powerRefused();
        power();
        rule();
        steal();
        rests();
        holdsRefused();
        holds();
        mean();
        fromNow();
        keepsRefused();
        keeps();
        centuryRefused();
        century();
        bareRefused();
        bare();
        finish(36, 45);
    }

    private static String gusty(int gust, String gate) {
        return "land hooks 0 gust " + gust + ";person p;person q;firm f p;firm g p,q;gate a " + gate;
    }

    /** One man, six gates worth 99 each, all of which have their hooks. */
    private static String rich(int gust) {
        return withGates(withPeople("land hooks 0 gust " + gust, 1), 6, "plain f worth 99 ahead");
    }

    /** So many people, each of whom alone has so much, by an odd gate without a hook. */
    private static String voters(int... votes) {
        StringBuilder text = new StringBuilder("land hooks 0 gust 0");
        for (int p = 0; p < votes.length; p++) {
            text.append(";person p").append((char) ('a' + p));
        }
        for (int p = 0; p < votes.length && p < 4; p++) {
            char last = (char) ('a' + p);
            text.append(";firm f").append(last).append(" p").append(last).append(";gate g").append(last).append(" odd f").append(last)
                .append(" worth ").append(votes[p]).append(" none");
        }
        return text.toString();
    }

    // ---- votes

    private static void powerRefused() {
        sentence(36, "-1: 1 (no LAND)", x -> refused(x, "the upper WHOLE", x.power(0, false), 1));
        sentence(36, "-1: 1 (no LAND)", x -> refused(x, "the lower WHOLE", x.power(0, true), 1));
        for (int p : NO_PEOPLE_OF_FIVE) {
            sentence(36, "-1: 1 (a person that there isn't: " + p + ")", SIX, x -> refused(x, "the upper WHOLE", x.power(p, false), 1));
            sentence(36, "-1: 1 (a person that there isn't: " + p + ")", SIX, x -> refused(x, "the lower WHOLE", x.power(p, true), 1));
        }
    }

    private static void duePower(String words, String text, int p, long upper, long lower) {
        sentence(36, words, text, x -> {
            dueRatio("POWER of " + p, x.power(p, false), x.power(p, true), upper, lower);
            due("trouble", x.trouble(), 0);
        });
    }

    private static void power() {
        duePower("of one who HAS nothing: 0 (0 by 1): nobody HAS any", ONE, 0, 0, 1);
        duePower("of one who HAS nothing: 0 (0 by 1): others have", voters(5, 5, 0), 2, 0, 1);
        duePower("0 by 1: one who turns no set", voters(9, 4), 1, 0, 1);
        duePower("the only one who HAS something", voters(5), 0, 1, 1);
        duePower("the only one who HAS something: others don't count", voters(5, 0, 0), 0, 1, 1);
        duePower("no more than half: half is no more", voters(5, 5), 0, 1, 2);
        duePower("have more with him: half is not more", voters(5, 5), 1, 1, 2);
        duePower("one more than half", voters(6, 5), 0, 1, 1);
        duePower("one more than half", voters(6, 5), 1, 0, 1);
        duePower("how many by how many sets: three of four", voters(2, 1, 1), 0, 3, 4);
        duePower("how many by how many sets: one of four", voters(2, 1, 1), 2, 1, 4);
        duePower("in lowest terms: two of four", voters(1, 1, 1), 1, 1, 2);
        duePower("how many by how many sets: seven of eight", voters(1, 1, 1, 3), 3, 7, 8);
        duePower("how many by how many sets: three of eight", voters(1, 1, 1, 1), 3, 3, 8);
        duePower("in lowest terms: six of sixteen, five alike", withPeople("land hooks 0 gust 0", 5) + ";gate a plain f worth 99 behind", 4, 3, 8);
        duePower("the greatest votes", voters(99, 99, 99), 0, 1, 2);
    }

    private static void dueRule(String words, String text, int due) {
        sentence(37, words, text, x -> granted(x, "rule", x.rule(), due));
    }

    private static void rule() {
        sentence(37, "NONE: 1 (no LAND)", x -> refused(x, "rule", x.rule(), 1));
        dueRule("-2 nobody HAS any", ONE, -2);
        dueRule("-2 nobody HAS any: five", withPeople("land hooks 0 gust 0", 5) + ";gate a plain f worth 4 behind", -2);
        dueRule("The fewest people: the only one", voters(1), 1);
        dueRule("The fewest people: the last of five alone", withPeople("land hooks 0 gust 0", 5) + ";firm g pe;gate a odd g worth 1 none", 16);
        dueRule("more than half of all VOTES: half is not more", voters(5, 5), 3);
        dueRule("more than half of all VOTES: one more", voters(5, 6), 2);
        dueRule("more than half of all VOTES: half is not more, three", voters(4, 3, 1), 3);
        dueRule("more than half of all VOTES: one more, three", voters(5, 3, 1), 1);
        dueRule("of like ones the least: two of three", voters(1, 1, 1), 3);
        dueRule("of like ones the least: three of five", withPeople("land hooks 0 gust 0", 5) + ";gate a plain f worth 5 behind", 7);
        dueRule("of like ones the least, that have more than half", voters(1, 2, 3, 2), 6);
        dueRule("The fewest people: fewer count ahead of least bits", voters(1, 1, 1, 4), 8);
        dueRule("The fewest people: all there are, two of two", voters(9, 9), 3);
    }

    // ---- a thief, a sentry

    private static void steal() {
        for (int which = 0; which < 8; which++) {
            boolean steals = (which & 4) != 0;
            boolean watches = (which & 2) != 0;
            boolean ofSentry = (which & 1) != 0;
            sentence(38, "-100: 1 (no LAND)", x -> {
                due("steal", x.steal(0, steals, watches, ofSentry), -100);
                due("trouble", x.trouble(), 1);
            });
            for (int worth : new int[] {Integer.MIN_VALUE, -1, 21, Integer.MAX_VALUE}) {
                sentence(38, "-100: 2 (a worth of " + worth + ")", ONE, x -> {
                    due("steal", x.steal(worth, steals, watches, ofSentry), -100);
                    due("trouble", x.trouble(), 2);
                });
                sentence(38, "1 (no LAND); 2 (1 is told first)", x -> {
                    due("steal", x.steal(worth, steals, watches, ofSentry), -100);
                    due("trouble", x.trouble(), 1);
                });
            }
        }
        for (int worth : new int[] {0, 1, 20}) {
            sentence(38, "stolen unwatched: the worth for the thief, so much less for the sentry: " + worth, ONE, x -> {
                granted(x, "the thief", x.steal(worth, true, false, false), worth);
                granted(x, "the sentry", x.steal(worth, true, false, true), -worth);
            });
            sentence(38, "stolen and watched: 3 less, 2: " + worth, ONE, x -> {
                granted(x, "the thief", x.steal(worth, true, true, false), -3);
                granted(x, "the sentry", x.steal(worth, true, true, true), 2);
            });
            sentence(38, "not stolen, watched: 0, 1 less: " + worth, ONE, x -> {
                granted(x, "the thief", x.steal(worth, false, true, false), 0);
                granted(x, "the sentry", x.steal(worth, false, true, true), -1);
            });
            sentence(38, "neither: 0 each: " + worth, ONE, x -> {
                granted(x, "the thief", x.steal(worth, false, false, false), 0);
                granted(x, "the sentry", x.steal(worth, false, false, true), 0);
            });
        }
    }

    private static void rests() {
        sentence(39, "NONE: 1 (no LAND)", x -> refused(x, "rests(0)", x.rests(0), 1));
        sentence(40, "likewise: 1 (no LAND)", x -> refused(x, "rest(0)", x.rest(0), 1));
        for (int worth : new int[] {Integer.MIN_VALUE, -1, 21, Integer.MAX_VALUE}) {
            sentence(39, "2 (a worth of " + worth + ")", ONE, x -> refused(x, "rests", x.rests(worth), 2));
            sentence(40, "likewise: 2 (a worth of " + worth + ")", ONE, x -> refused(x, "rest", x.rest(worth), 2));
            sentence(39, "1 (no LAND); 2 (1 is told first)", x -> refused(x, "rests", x.rests(worth), 1));
            sentence(40, "1 (no LAND); 2 (1 is told first)", x -> refused(x, "rest", x.rest(worth), 1));
        }
        // at 0 stealing unwatched is no better than not stealing, so there neither could have more alone
        sentence(39, "a pair by which neither could have more alone: at 0", ONE, x -> granted(x, "rests", x.rests(0), 1));
        sentence(40, "The first: at 0 not stealing, not watching", ONE, x -> granted(x, "rest", x.rest(0), 0));
        for (int worth = 1; worth <= 20; worth++) {
            int at = worth;
            sentence(39, "a pair by which neither could have more alone: none at " + worth, ONE, x -> granted(x, "rests", x.rests(at), 0));
            sentence(40, "-2: at " + worth, ONE, x -> granted(x, "rest", x.rest(at), -2));
        }
    }

    // ---- gusts by chance

    private static void holdsRefused() {
        sentence(41, "-1: 1 (no LAND)", x -> refused(x, "the upper WHOLE", x.holds(0, 0, false), 1));
        sentence(41, "-1: 1 (no LAND)", x -> refused(x, "the lower WHOLE", x.holds(0, 0, true), 1));
        for (int g : new int[] {Integer.MIN_VALUE, -1, 6, Integer.MAX_VALUE}) {
            sentence(41, "-1: 1 (a gate that there isn't: " + g + ")", SIX, x -> refused(x, "the upper WHOLE", x.holds(g, 0, false), 1));
            sentence(41, "-1: 1 (a gate that there isn't: " + g + ")", SIX, x -> refused(x, "the lower WHOLE", x.holds(g, 0, true), 1));
        }
        for (int n : new int[] {Integer.MIN_VALUE, -1, 5, Integer.MAX_VALUE}) {
            sentence(41, "2 (so many years: " + n + ")", SIX, x -> refused(x, "the upper WHOLE", x.holds(0, n, false), 2));
            sentence(41, "2 (so many years: " + n + ")", SIX, x -> refused(x, "the lower WHOLE", x.holds(0, n, true), 2));
            sentence(41, "1; 2 (1 is told first)", SIX, x -> refused(x, "holds", x.holds(6, n, true), 1));
        }
    }

    private static void dueHolds(String words, String text, int n, long upper, long lower) {
        sentence(41, words, text, x -> {
            dueRatio("holds " + n + " years", x.holds(0, n, false), x.holds(0, n, true), upper, lower);
            due("trouble", x.trouble(), 0);
        });
    }

    private static void holds() {
        for (int gust : new int[] {0, 1, 50, 99, 100}) {
            dueHolds("n years (0 .. 4): 0, gust " + gust, gusty(gust, "plain f worth 5 ahead"), 0, 1, 1);
        }
        dueHolds("n years (0 .. 4): 1", gusty(1, "plain f worth 5 ahead"), 1, 99, 100);
        dueHolds("n years (0 .. 4): 2", gusty(1, "plain f worth 5 ahead"), 2, 9801, 10000);
        dueHolds("n years (0 .. 4): 3", gusty(1, "plain f worth 5 ahead"), 3, 970299, 1000000);
        dueHolds("n years (0 .. 4): 4", gusty(1, "plain f worth 5 ahead"), 4, 96059601, 100000000);
        dueHolds("n years (0 .. 4): 4, hardly", gusty(99, "plain f worth 5 behind"), 4, 1, 100000000);
        dueHolds("in lowest terms", gusty(50, "plain f worth 5 ahead"), 4, 1, 16);
        dueHolds("as likely as told: never", gusty(0, "plain f worth 5 ahead"), 4, 1, 1);
        dueHolds("as likely as told: surely (0 by 1)", gusty(100, "plain f worth 5 ahead"), 1, 0, 1);
        dueHolds("as likely as told: an odd one", gusty(1, "odd f worth 5 behind"), 1, 99, 100);
        dueHolds("at loose ones twice as likely: never", gusty(0, "loose f worth 5 ahead"), 4, 1, 1);
        dueHolds("at loose ones twice as likely", gusty(1, "loose f worth 5 ahead"), 1, 49, 50);
        dueHolds("at loose ones twice as likely, 100 at most: 49", gusty(49, "loose f worth 5 ahead"), 1, 1, 50);
        dueHolds("at loose ones twice as likely, 100 at most: 50", gusty(50, "loose f worth 5 ahead"), 1, 0, 1);
        dueHolds("at loose ones twice as likely, 100 at most: 51", gusty(51, "loose f worth 5 ahead"), 1, 0, 1);
        dueHolds("at loose ones twice as likely, 100 at most: 51, twice", gusty(51, "loose f worth 5 ahead"), 2, 0, 1);
        dueHolds("at loose ones twice as likely, 100 at most: 100", gusty(100, "loose f worth 5 ahead"), 4, 0, 1);
        dueHolds("but at guarded gates", gusty(100, "guarded f worth 5 ahead"), 4, 1, 1);
        dueHolds("each hook that hangs: none does", gusty(100, "plain f worth 5 none"), 4, 1, 1);
        dueHolds("each hook that hangs: none does, at a loose one", gusty(100, "loose f worth 5 none"), 4, 1, 1);
        sentence(41, "hangs as NOW: taken", gusty(100, "plain f worth 5 ahead"), x -> {
            x.take(0);
            dueRatio("holds", x.holds(0, 4, false), x.holds(0, 4, true), 1, 1);
        });
        sentence(41, "n years of GUSTS: nothing is done", gusty(100, "plain f worth 5 ahead"), x -> {
            x.holds(0, 4, true);
            due("hook", x.gate(0, 3), 1);
            due("year", x.size(9), 0);
        });
    }

    private static void dueMean(String words, String text, int p, long upper, long lower) {
        sentence(42, words, text, x -> {
            dueRatio("mean of " + p, x.mean(p, false), x.mean(p, true), upper, lower);
            due("trouble", x.trouble(), 0);
        });
    }

    private static void mean() {
        sentence(42, "-1: 1 (no LAND)", x -> refused(x, "the upper WHOLE", x.mean(0, false), 1));
        sentence(42, "-1: 1 (no LAND)", x -> refused(x, "the lower WHOLE", x.mean(0, true), 1));
        for (int p : NO_PEOPLE_OF_FIVE) {
            sentence(42, "-1: 1 (a person that there isn't: " + p + ")", SIX, x -> refused(x, "the upper WHOLE", x.mean(p, false), 1));
            sentence(42, "-1: 1 (a person that there isn't: " + p + ")", SIX, x -> refused(x, "the lower WHOLE", x.mean(p, true), 1));
        }
        dueMean("likewise: 0 by 1", ONE, 0, 0, 1);
        dueMean("likewise: 0 by 1, as all falls", rich(100), 0, 0, 1);
        dueMean("likewise: by 1, as none falls", rich(0), 0, 594, 1);
        dueMean("in lowest terms", rich(50), 0, 297, 1);
        dueMean("in lowest terms: by 100", gusty(1, "plain f worth 99 ahead"), 0, 9801, 100);
        dueMean("in lowest terms: by 100, hardly", gusty(99, "plain f worth 1 ahead"), 0, 1, 100);
        dueMean("behind one year: the greatest by 50", rich(1), 0, 29403, 50);
        dueMean("it lies on the ground: an odd one is the head's then", gusty(1, "odd f worth 99 behind"), 0, 99, 100);
        dueMean("it lies on the ground: an odd one is the head's then, surely", gusty(100, "odd g worth 9 ahead"), 0, 9, 1);
        dueMean("it lies on the ground: an odd one is not another man's then", gusty(100, "odd g worth 9 ahead"), 1, 0, 1);
        dueMean("what a person HAS: downwards", gusty(50, "plain g worth 5 behind"), 1, 1, 1);
        dueMean("but at guarded gates", gusty(100, "guarded f worth 9 ahead"), 0, 9, 1);
        dueMean("at loose ones twice as likely, 100 at most: 49", gusty(49, "loose f worth 50 ahead"), 0, 1, 1);
        dueMean("at loose ones twice as likely, 100 at most: 50", gusty(50, "loose f worth 50 ahead"), 0, 0, 1);
        dueMean("at loose ones twice as likely, 100 at most: 51", gusty(51, "loose f worth 50 ahead"), 0, 0, 1);
        dueMean("at loose ones twice as likely, 100 at most: 100, by an odd one's 7", gusty(100, "loose f worth 50 ahead") + ";gate b odd f worth 7 behind",
            0, 7, 1);
    }

    /** What is likely hangs on how hooks hang NOW, not on how they were told. */
    private static void fromNow() {
        sentence(36, "so many as he HAS: NOW", gusty(0, "plain f worth 5 ahead"), x -> {
            dueRatio("the only one", x.power(0, false), x.power(0, true), 1, 1);
            x.take(0);
            dueRatio("nobody", x.power(0, false), x.power(0, true), 0, 1);
        });
        sentence(37, "each has so many as he HAS: NOW", gusty(0, "plain f worth 5 ahead"), x -> {
            granted(x, "the only one", x.rule(), 1);
            x.take(0);
            granted(x, "nobody", x.rule(), -2);
        });
        sentence(42, "what a person HAS behind one year: from NOW", rich(50), x -> {
            x.take(0);
            dueRatio("mean", x.mean(0, false), x.mean(0, true), 495, 2);
        });
        sentence(43, "behind one year: from NOW", rich(50), x -> {
            x.take(0);
            dueRatio("keeps 495", x.keeps(0, 495, false), x.keeps(0, 495, true), 1, 32);
            dueRatio("keeps 496", x.keeps(0, 496, false), x.keeps(0, 496, true), 0, 1);
        });
    }

    private static void keepsRefused() {
        sentence(43, "-1: 1 (no LAND)", x -> refused(x, "the upper WHOLE", x.keeps(0, 0, false), 1));
        sentence(43, "-1: 1 (no LAND)", x -> refused(x, "the lower WHOLE", x.keeps(0, 0, true), 1));
        for (int p : NO_PEOPLE_OF_FIVE) {
            sentence(43, "-1: 1 (a person that there isn't: " + p + ")", SIX, x -> refused(x, "the upper WHOLE", x.keeps(p, 0, false), 1));
            sentence(43, "-1: 1 (a person that there isn't: " + p + ")", SIX, x -> refused(x, "the lower WHOLE", x.keeps(p, 0, true), 1));
        }
        for (int much : new int[] {Integer.MIN_VALUE, -1, 600, Integer.MAX_VALUE}) {
            sentence(43, "2 (so much: " + much + ")", SIX, x -> refused(x, "the upper WHOLE", x.keeps(0, much, false), 2));
            sentence(43, "2 (so much: " + much + ")", SIX, x -> refused(x, "the lower WHOLE", x.keeps(0, much, true), 2));
            sentence(43, "1; 2 (1 is told first)", SIX, x -> refused(x, "keeps", x.keeps(5, much, true), 1));
        }
    }

    private static void dueKeeps(String words, String text, int p, int much, long upper, long lower) {
        sentence(43, words, text, x -> {
            dueRatio("keeps " + much, x.keeps(p, much, false), x.keeps(p, much, true), upper, lower);
            due("trouble", x.trouble(), 0);
        });
    }

    private static void keeps() {
        dueKeeps("so much (0 .. 599): 0, of one who HAS nothing", ONE, 0, 0, 1, 1);
        dueKeeps("so much (0 .. 599): 0, as all falls", rich(100), 0, 0, 1, 1);
        dueKeeps("so much (0 .. 599): 0, as some may fall", rich(33), 0, 0, 1, 1);
        dueKeeps("so much (0 .. 599): 599", rich(0), 0, 599, 0, 1);
        dueKeeps("so much or more: all there is", rich(0), 0, 594, 1, 1);
        dueKeeps("so much or more: one more than there is", rich(0), 0, 595, 0, 1);
        dueKeeps("so much or more: 1, as all falls", rich(100), 0, 1, 0, 1);
        dueKeeps("How likely: none of six falls", rich(1), 0, 594, 941480149401L, 1000000000000L);
        dueKeeps("How likely: none of six falls, hardly", rich(99), 0, 594, 1, 1000000000000L);
        dueKeeps("How likely: not all of six fall", rich(99), 0, 1, 58519850599L, 1000000000000L);
        dueKeeps("How likely: one of six falls at most, by just so much", rich(50), 0, 495, 7, 64);
        dueKeeps("How likely: none of six falls, by one more", rich(50), 0, 496, 1, 64);
        dueKeeps("still HAS so much: just so much", gusty(1, "plain f worth 5 ahead"), 0, 5, 99, 100);
        dueKeeps("still HAS so much: one more", gusty(1, "plain f worth 5 ahead"), 0, 6, 0, 1);
        dueKeeps("so much or more: what an odd one gives that falls", gusty(1, "odd f worth 5 behind"), 0, 5, 1, 100);
        dueKeeps("so much or more: what an odd one gives that falls, surely", gusty(100, "odd f worth 99 behind"), 0, 99, 1, 1);
        dueKeeps("but at guarded gates", gusty(100, "guarded f worth 5 ahead"), 0, 5, 1, 1);
        dueKeeps("at loose ones twice as likely, 100 at most: 49", gusty(49, "loose f worth 5 ahead"), 0, 5, 1, 50);
        dueKeeps("at loose ones twice as likely, 100 at most: 50", gusty(50, "loose f worth 5 ahead"), 0, 5, 0, 1);
        dueKeeps("at loose ones twice as likely, 100 at most: 51", gusty(51, "loose f worth 5 ahead"), 0, 5, 0, 1);
        dueKeeps("of a man of no firm", gusty(50, "plain f worth 5 ahead"), 1, 1, 0, 1);
        dueKeeps("downwards", gusty(50, "plain g worth 5 behind"), 1, 2, 1, 2);
        dueKeeps("downwards", gusty(50, "plain g worth 5 behind"), 1, 3, 0, 1);
    }

    // ---- gusts by a SEED

    private static void centuryRefused() {
        sentence(44, "NONE: 1 (no LAND)", x -> refused(x, "century(0, 0, 0)", x.century(0, 0, 0), 1));
        for (int p : NO_PEOPLE_OF_FIVE) {
            sentence(44, "NONE: 1 (a person that there isn't: " + p + ")", SIX, x -> refused(x, "century", x.century(p, 0, 0), 1));
        }
        for (int seed : NO_SEEDS) {
            sentence(44, "2 (a SEED of " + seed + ")", SIX, x -> refused(x, "century", x.century(0, seed, 0), 2));
            sentence(44, "1; 2 (1 is told first)", SIX, x -> refused(x, "century", x.century(5, seed, 0), 1));
        }
        for (int n : NO_DRAWN_YEARS) {
            sentence(44, "2 (so many years: " + n + ")", SIX, x -> refused(x, "century", x.century(0, 0, n), 2));
            sentence(44, "1; 2 (1 is told first)", SIX, x -> refused(x, "century", x.century(5, 0, n), 1));
        }
    }

    private static void dueCentury(String words, String text, int seed, int n, int due) {
        sentence(44, words, text, x -> granted(x, "century of " + n + " years by " + seed, x.century(0, seed, n), due));
    }

    private static void century() {
        dueCentury("n years (0 .. 60): 0", rich(100), 0, 0, 594);
        dueCentury("n years (0 .. 60): 1", rich(100), 0, 1, 0);
        dueCentury("n years (0 .. 60): 60", rich(0), 0, 60, 594);
        // of SEED 183 the first DRAW below 1 is the 60th
        dueCentury("n years (0 .. 60): 59, the hook still hangs", gusty(1, "plain f worth 5 ahead"), 183, 59, 5);
        dueCentury("n years (0 .. 60): 60, it has fallen in the last", gusty(1, "plain f worth 5 ahead"), 183, 60, 0);
        // SEED 65,536 becomes 65,536 again, a DRAW of 36
        dueCentury("a SEED (0 .. 65,536): 65,536", gusty(36, "plain f worth 5 ahead"), 65536, 60, 5);
        dueCentury("a SEED (0 .. 65,536): 65,536", gusty(37, "plain f worth 5 ahead"), 65536, 1, 0);
        // SEED 0 becomes 74
        dueCentury("a SEED (0 .. 65,536): 0", gusty(74, "plain f worth 5 ahead"), 0, 1, 5);
        dueCentury("a SEED (0 .. 65,536): 0", gusty(75, "plain f worth 5 ahead"), 0, 1, 0);
        // SEED 45,438 becomes 0, SEED 3 becomes 299
        dueCentury("below as likely as it falls: a DRAW of 0 is not below 0", gusty(0, "plain f worth 5 ahead"), 45438, 1, 5);
        dueCentury("below as likely as it falls: a DRAW of 0 is below 1", gusty(1, "plain f worth 5 ahead"), 45438, 1, 0);
        dueCentury("below as likely as it falls: a DRAW of 99 is not below 99", gusty(99, "plain f worth 5 ahead"), 3, 1, 5);
        dueCentury("below as likely as it falls: a DRAW of 99 is below 100", gusty(100, "plain f worth 5 ahead"), 3, 1, 0);
        dueCentury("as likely as it falls: a loose one by 98", gusty(49, "loose f worth 5 ahead"), 3, 1, 5);
        dueCentury("as likely as it falls: a loose one by 100", gusty(50, "loose f worth 5 ahead"), 3, 1, 0);
        dueCentury("for each gate that isn't guarded", gusty(100, "guarded f worth 5 ahead"), 0, 60, 5);
        dueCentury("it lies on the ground: an odd one is the head's then", gusty(100, "odd f worth 5 behind"), 0, 1, 5);
        // of SEED 0 the DRAWS are 74, 24, 52, 90, 41, 9
        String four = "land hooks 0 gust GUST;person p;firm f p;gate a plain f worth 1 ahead;gate b plain f worth 2 ahead;"
            + "gate c guarded f worth 4 ahead;gate d loose f worth 8 ahead";
        dueCentury("by numbers: 24 is not below 24", four.replace("GUST", "24"), 0, 1, 15);
        dueCentury("by numbers: 24 is below 25", four.replace("GUST", "25"), 0, 1, 13);
        dueCentury("by numbers: 52 is not below 52", four.replace("GUST", "26"), 0, 1, 13);
        dueCentury("by numbers: 52 is below 54", four.replace("GUST", "27"), 0, 1, 5);
        dueCentury("at which one hangs: what fell takes no DRAW", four.replace("GUST", "25"), 0, 2, 5);
        dueCentury("at which one hangs: what fell takes no DRAW", four.replace("GUST", "25"), 0, 3, 4);
        sentence(44, "n years of GUSTS by a SEED: as GUST does, year by year", rich(3), x -> {
            x.seed(65535);
            int[] has = new int[61];
            for (int n = 0; n <= 60; n++) {
                has[n] = x.century(0, 65535, n);
            }
            for (int n = 0; n <= 60; n++) {
                due("behind " + n + " years", has[n], x.person(0, 0));
                x.gust();
            }
        });
        sentence(44, "What a person HAS behind n years: from NOW", rich(0), x -> {
            x.take(5);
            granted(x, "0 years", x.century(0, 0, 0), 495);
            granted(x, "60 years", x.century(0, 0, 60), 495);
        });
        sentence(44, "What a person HAS: nothing is done", rich(100), x -> {
            x.seed(7);
            x.century(0, 0, 60);
            due("HAS", x.person(0, 0), 594);
            due("SEED", x.size(10), 7);
            due("year", x.size(9), 0);
            due("ACTS", x.size(11), 0);
        });
        sentence(44, "by a SEED: not by the one there is", gusty(75, "plain f worth 5 ahead"), x -> {
            x.seed(3);
            granted(x, "by 0", x.century(0, 0, 1), 0);
            granted(x, "by 3", x.century(0, 3, 1), 5);
        });
    }

    private static void bareRefused() {
        sentence(45, "NONE: 1 (no LAND)", x -> refused(x, "bare(0, 0)", x.bare(0, 0), 1));
        for (int seed : NO_SEEDS) {
            sentence(45, "2 (a SEED of " + seed + ")", SIX, x -> refused(x, "bare", x.bare(seed, 0), 2));
            sentence(45, "1 (no LAND); 2 (1 is told first)", x -> refused(x, "bare", x.bare(seed, 0), 1));
        }
        for (int n : NO_DRAWN_YEARS) {
            sentence(45, "2 (so many years: " + n + ")", SIX, x -> refused(x, "bare", x.bare(0, n), 2));
            sentence(45, "1 (no LAND); 2 (1 is told first)", x -> refused(x, "bare", x.bare(0, n), 1));
        }
    }

    private static void dueBare(String words, String text, int seed, int n, int due) {
        sentence(45, words, text, x -> granted(x, "bare(" + seed + ", " + n + ")", x.bare(seed, n), due));
    }

    private static void bare() {
        dueBare("Behind how many (0 .. n): 0, none hangs", ONE, 0, 0, 0);
        dueBare("Behind how many (0 .. n): 0, none hangs, of 60", ONE, 65536, 60, 0);
        dueBare("Behind how many (0 .. n): -2, one hangs", gusty(100, "plain f worth 5 ahead"), 0, 0, -2);
        dueBare("Behind how many (0 .. n): 1", gusty(100, "plain f worth 5 ahead"), 0, 1, 1);
        dueBare("Behind how many (0 .. n), first: 1 of 60", rich(100), 0, 60, 1);
        dueBare("-2: never", rich(0), 0, 60, -2);
        dueBare("Behind how many (0 .. n): n itself, 60", gusty(1, "plain f worth 5 ahead"), 183, 60, 60);
        dueBare("-2: one year too few", gusty(1, "plain f worth 5 ahead"), 183, 59, -2);
        dueBare("but at guarded gates: none else", gusty(0, "guarded f worth 5 ahead"), 0, 0, 0);
        dueBare("but at guarded gates: one else", gusty(0, "guarded f worth 5 behind") + ";gate b plain f worth 5 behind", 0, 60, -2);
        dueBare("but at guarded gates: one else falls", gusty(100, "guarded f worth 5 behind") + ";gate b plain f worth 5 behind", 0, 60, 1);
        dueBare("a SEED (0 .. 65,536): 65,536, a DRAW of 36 over and over", gusty(36, "plain f worth 5 ahead"), 65536, 60, -2);
        dueBare("a SEED (0 .. 65,536): 65,536, a DRAW of 36", gusty(37, "plain f worth 5 ahead"), 65536, 60, 1);
        sentence(45, "of them: nothing is done", rich(100), x -> {
            x.bare(0, 60);
            dueRow("hooks", hungs(x, 6), "111111");
            due("SEED", x.size(10), 0);
            due("year", x.size(9), 0);
            due("ACTS", x.size(11), 0);
        });
        sentence(45, "no hook hangs any more: from NOW", rich(100), x -> {
            for (int g = 0; g < 6; g++) {
                due("bare", x.bare(0, 0), -2);
                x.take(g);
            }
            granted(x, "bare", x.bare(0, 0), 0);
        });
    }
}
