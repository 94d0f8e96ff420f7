import java.nio.charset.StandardCharsets;
import java.util.Arrays;
import java.util.NoSuchElementException;
import java.util.function.IntUnaryOperator;

/** What the tests by promise share: lands, texts that are fed, answers that are due. */
abstract class Checks {
    static final int NONE = HookGates.NONE;
    static final int THROWN = -9;
    static final int BLANKS = 0x20202020;

    /** Three people, two firms, a gate of each kind: one hook lies on the ground, three hang. */
    static final String FOUR = "land hooks 1 gust 50;person p;person q;person r;firm f p,q;firm g r,p;"
        + "gate a plain f worth 10 ahead;gate b odd f worth 9 behind;gate c guarded g worth 7 behind;"
        + "gate d loose g worth 20 none;path a b;path b c;wants q a;alone r d;lost a;lost d;had p 13";

    /** Five people, four firms, six gates in a ring, nothing wanted or lost. */
    static final String SIX = "land hooks 2 gust 30;person a;person b;person c;person d;person e;"
        + "firm fa a;firm fb b,c;firm fc c,d,e;firm fd e,d,c,b,a;"
        + "gate ga plain fa worth 99 ahead;gate gb odd fb worth 50 none;gate gc loose fc worth 31 behind;"
        + "gate gd plain fd worth 12 behind;gate ge odd fd worth 4 ahead;gate gf guarded fa worth 8 none;"
        + "path ga gb;path gb gc;path gc gd;path gd ge;path ge gf;path gf ga";

    /** One man, one gate, no hooks. */
    static final String ONE = "land hooks 0 gust 0;person p;firm f p;gate a plain f worth 5 none";

    /** The calls that show that a sentence of the document holds. */
    interface Calls {
        void on(HookGates x);
    }

    private static final boolean[] HAS_SENTENCES = new boolean[57];
    private static int sentences;
    private static int checks;
    private static int wrong;
    private static int promiseAtHand;
    private static String wordsAtHand = "";

    /** One sentence of a promise, or of a definition that the promise uses: its calls, on a new object. */
    static void sentence(int promise, String words, Calls calls) {
        promiseAtHand = promise;
        wordsAtHand = words;
        sentences++;
        HAS_SENTENCES[promise] = true;
        calls.on(new HookGates());
    }

    /** Likewise, on a new object that has been told a LAND. */
    static void sentence(int promise, String words, String text, Calls calls) {
        sentence(promise, words, x -> {
            due("land of " + text, tell(x, text) > 0, true);
            calls.on(x);
        });
    }

    /** Tells how the checks went; the program ends with 1 if one went wrong. */
    static void finish() {
        System.out.println((sentences > 0 ? sentences + " sentences, " : "") + checks + " checks, " + wrong + " wrong");
        if (wrong != 0) {
            System.exit(1);
        }
    }

    /** Likewise, if each of these promises has had a sentence. */
    static void finish(int firstPromise, int lastPromise) {
        for (int promise = firstPromise; promise <= lastPromise; promise++) {
            due(promise, "it has a sentence", HAS_SENTENCES[promise], true);
        }
        finish();
    }

    // ---- answers

    static void due(int promise, String what, long got, long due) {
        checks++;
        if (got != due) {
            wrong++;
            System.out.println("promise " + promise + ": " + what + " answered " + got + ", due is " + due);
        }
    }

    static void due(int promise, String what, boolean got, boolean due) {
        due(promise, what, got ? 1 : 0, due ? 1 : 0);
    }

    static void due(String what, long got, long due) {
        due(promiseAtHand, "'" + wordsAtHand + "': " + what, got, due);
    }

    static void due(String what, boolean got, boolean due) {
        due(what, got ? 1 : 0, due ? 1 : 0);
    }

    static void dueRow(int promise, String what, String got, String due) {
        due(promise, what + " (" + got + " for " + due + ")", got.equals(due), true);
    }

    static void dueRow(String what, String got, String due) {
        due(what + " (" + got + " for " + due + ")", got.equals(due), true);
    }

    static void dueRatio(int promise, String what, long upper, long lower, long dueUpper, long dueLower) {
        due(promise, what + ", upper", upper, dueUpper);
        due(promise, what + ", lower", lower, dueLower);
    }

    static void dueRatio(String what, long upper, long lower, long dueUpper, long dueLower) {
        due(what + ", upper", upper, dueUpper);
        due(what + ", lower", lower, dueLower);
    }

    /** A refused call: its answer, then its TROUBLE. */
    static void refused(int promise, HookGates x, String what, long got, int trouble) {
        due(promise, what, got, NONE);
        due(promise, "trouble of " + what, x.trouble(), trouble);
    }

    static void refused(HookGates x, String what, long got, int trouble) {
        due(what, got, NONE);
        due("trouble of " + what, x.trouble(), trouble);
    }

    static void denied(int promise, HookGates x, String what, boolean got, int trouble) {
        due(promise, what, got, false);
        due(promise, "trouble of " + what, x.trouble(), trouble);
    }

    static void denied(HookGates x, String what, boolean got, int trouble) {
        due(what, got, false);
        due("trouble of " + what, x.trouble(), trouble);
    }

    /** A call that isn't refused: its answer, then TROUBLE 0, whatever it was ahead of it. */
    static void granted(HookGates x, String what, long got, long due) {
        due(what, got, due);
        due("trouble of " + what, x.trouble(), 0);
    }

    static void granted(HookGates x, String what, boolean got) {
        granted(x, what, got ? 1 : 0, 1);
    }

    // ---- calls

    static int feedBlanks(HookGates x) {
        return x.feed(BLANKS, BLANKS, BLANKS, BLANKS, BLANKS);
    }

    static int feedText(HookGates x, String text) {
        byte[] bytes = text.getBytes(StandardCharsets.ISO_8859_1);
        int fed = x.size(13);
        for (int at = 0; at < bytes.length; at += 20) {
            byte[] twenty = new byte[20];
            Arrays.fill(twenty, (byte) ' ');
            System.arraycopy(bytes, at, twenty, 0, Math.min(20, bytes.length - at));
            int[] five = new int[5];
            for (int i = 0; i < 20; i++) {
                five[i / 4] = five[i / 4] << 8 | twenty[i] & 255;
            }
            fed = x.feed(five[0], five[1], five[2], five[3], five[4]);
        }
        return fed;
    }

    static int tell(HookGates x, String text) {
        feedText(x, text);
        return x.land(text.length());
    }

    static HookGates told(String text) {
        HookGates x = new HookGates();
        due(3, "land of " + text, tell(x, text) > 0, true);
        return x;
    }

    /** Answers behind one another, as many as there are gates or the like. */
    static String row(int answers, IntUnaryOperator call) {
        StringBuilder row = new StringBuilder();
        for (int i = 0; i < answers; i++) {
            row.append(call.applyAsInt(i));
        }
        return row.toString();
    }

    /** How the hooks hang NOW, a digit a gate. */
    static String hungs(HookGates x, int gates) {
        return row(gates, g -> x.gate(g, 3));
    }

    static int ledOrThrown(HookGates x, int i) {
        try {
            return x.led(i);
        } catch (NoSuchElementException none) {
            return none.getClass() == NoSuchElementException.class ? THROWN : THROWN - 1;
        }
    }

    /** What a SEED becomes by so many DRAWS. */
    static int draws(int seed, int n) {
        long v = seed;
        for (int i = 0; i < n; i++) {
            v = (75 * v + 74) % 65537;
        }
        return (int) v;
    }

    // ---- texts

    /** A text, then so many gates ga, gb, .., each told by the same words behind its NAME. */
    static String withGates(String text, int gates, String words) {
        StringBuilder all = new StringBuilder(text);
        for (int g = 0; g < gates; g++) {
            all.append(";gate g").append((char) ('a' + g)).append(' ').append(words);
        }
        return all.toString();
    }

    /** A land line, so many people pa, pb, .., and firm f of all of them, pa its head. */
    static String withPeople(String landLine, int people) {
        StringBuilder all = new StringBuilder(landLine);
        StringBuilder firm = new StringBuilder(";firm f ");
        for (int p = 0; p < people; p++) {
            char last = (char) ('a' + p);
            all.append(";person p").append(last);
            firm.append(p == 0 ? "" : ",").append('p').append(last);
        }
        return all.append(firm).toString();
    }
}
