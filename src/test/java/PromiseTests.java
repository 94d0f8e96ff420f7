/** For each promise of the document its answers by hand: ordinary ones, edges, wrong inputs. */
public final class PromiseTests extends Checks {
    private static final String HEAD = "land hooks 2 gust 5;";
    private static final String BODY = "person p;person q;firm f p,q;gate a plain f worth 5 none;gate b odd f worth 5 ahead";

    public static void main(String[] args) {
        newObject();
        feed();
        land();
        faults();
        faultNumbersByPlace();
        manyAndNames();
        nearlyAlike();
        faultAndWhere();
        gate();
        person();
        firm();
        commonsRichestGround();
        hasIf();
        can();
        errand();
        met();
        movesForMostByReach();
        cover();
        still();
        fairest();
        fits();
        look();
        judge();
        apartPartsSentries();
        estate();
        power();
        rule();
        theft();
        holds();
        mean();
        keeps();
        centuryBare();
        hangTakeTurn();
        gustSeed();
        undo();
        images();
        led();
        size();
        trouble();
        withoutLand();
        finish();
    }

    // ---- helpers

    private static void fault(String text, int number, int place) {
        HookGates x = new HookGates();
        tell(x, ONE);
        due(3, "land with a fault: " + text, tell(x, text), NONE);
        due(56, "trouble of " + text, x.trouble(), 4);
        due(4, "fault of " + text, x.fault(), number);
        due(5, "where of " + text, x.where(), place);
        due(3, "the old land stays behind " + text, x.size(4), 1);
        due(3, "the tape is empty behind " + text, x.size(13), 0);
    }

    /** A fault behind a sound beginning; the place counts from the first byte of the rest. */
    private static void faultIn(String rest, int number, int place) {
        fault(HEAD + BODY + ";" + rest, number, (HEAD + BODY + ";").length() + place);
    }

    private static void sound(String text, int gates) {
        HookGates x = new HookGates();
        due(3, "land of " + text, tell(x, text), gates);
        due(4, "fault of " + text, x.fault(), 0);
        due(5, "where of " + text, x.where(), NONE);
        due(56, "trouble of " + text, x.trouble(), 0);
    }

    // ---- the land

    private static void newObject() {
        HookGates x = new HookGates();
        for (int what = 0; what <= 13; what++) {
            due(1, "size of nothing " + what, x.size(what), 0);
        }
        due(1, "trouble", x.trouble(), 0);
        due(1, "fault", x.fault(), 0);
        due(1, "where", x.where(), NONE);
        due(1, "no gate", x.gate(0, 0), NONE);
        due(1, "no hooks", x.ground(), NONE);
        due(1, "NONE", HookGates.NONE, -1);
    }

    private static void feed() {
        HookGates x = new HookGates();
        for (int i = 1; i <= 45; i++) {
            due(2, "feed " + i, x.feed(0x20202020, 0x20202020, 0x20202020, 0x20202020, 0x20202020), 20 * i);
        }
        due(2, "feed too much", x.feed(0, 0, 0, 0, 0), NONE);
        due(2, "the tape stays", x.size(13), 900);
        due(2, "no trouble", x.trouble(), 0);
        due(2, "a tape of blanks", x.land(900), NONE);
        due(2, "its fault", x.fault(), 1);
        due(2, "its place", x.where(), 900);
        due(2, "feed anew", feedText(x, ONE), 80);
        due(2, "the bytes in their order", x.land(ONE.length()), 1);
        // bytes of 128 and more are no signs of a text, wherever they stand in a number
        x.feed(0x80000000, 0, 0, 0, 0);
        due(2, "a high byte", x.land(20), NONE);
        due(2, "its place", x.where(), 0);
        x.feed(0x20202080, 0, 0, 0, 0);
        x.land(20);
        due(2, "the lowest byte last", x.where(), 3);
        x.feed(0x20202020, 0x20202020, 0x20202020, 0x20202020, 0x20203f20);
        x.land(20);
        due(2, "the fifth number last", x.where(), 18);
    }

    private static void land() {
        HookGates x = new HookGates();
        refused(3, x, "land(1) of an empty tape", x.land(1), 2);
        refused(3, x, "land(-1)", x.land(-1), 2);
        due(4, "no fault by 2", x.fault(), 0);
        int fed = feedText(x, FOUR);
        refused(3, x, "land of more than there is", x.land(fed + 1), 2);
        refused(3, x, "land of the least number", x.land(Integer.MIN_VALUE), 2);
        due(3, "the tape stays", x.size(13), fed);
        due(3, "land", x.land(FOUR.length()), 4);
        due(3, "trouble", x.trouble(), 0);
        due(3, "the tape is empty", x.size(13), 0);
        x.seed(77);
        x.image();
        x.take(0);
        x.gust();
        refused(3, x, "land of nothing", x.land(0), 4);
        due(3, "what was done stays", x.size(11), 2);
        due(3, "the image stays", x.size(12), 1);
        due(3, "the year stays", x.size(9), 1);
        due(3, "land anew", tell(x, SIX), 6);
        due(3, "year 0", x.size(9), 0);
        due(3, "seed 0", x.size(10), 0);
        due(3, "nothing to undo", x.size(11), 0);
        due(3, "no images", x.size(12), 0);
        due(3, "undo", x.undo(), false);
        due(3, "back", x.back(0), false);
        dueRow(3, "hooks as told", hungs(x, 6), "102210");
        due(3, "a shorter land anew", tell(x, FOUR), 4);
        dueRow(3, "hooks as told", hungs(x, 4), "1220");
        due(3, "no path of the old one", x.gate(3, 5), 0);
        due(3, "nothing is left of the errands of the old one", x.reach(), 27);
        due(3, "nor of its covers", x.cover(), 2);
        due(3, "nor of its fits", x.fits(), 3);
        tell(x, ONE);
        due(3, "reach of the new one", x.reach(), 1);
        due(3, "cover of the new one", x.cover(), -2);
        due(3, "fits of the new one", x.fits(), 1);
    }

    private static void faults() {
        sound(ONE, 1);
        sound("  land   hooks 06 gust 100 ;person p ; firm f p;gate a odd f worth 99 none   ", 1);
        sound("land hooks0gust0;person hooks;firm worth hooks;gate none plain worth worth 0none", 1);
        sound(FOUR, 4);
        sound(SIX, 6);
        fault("", 1, 0);
        fault("   ", 1, 3);
        fault(";", 1, 0);
        fault("7", 1, 0);
        fault("hooks", 1, 0);
        fault("Land", 1, 0);
        fault("landhooks 1", 1, 0);
        fault("land hook 1", 1, 5);
        fault("land hooks", 1, 10);
        fault("land hooks x", 1, 11);
        fault("land hooks 1000 gust 5", 1, 11);
        fault("land hooks 7 gust 5", 4, 11);
        fault("land hooks 6 gust 101", 4, 18);
        fault("land hooks 6 gust 5 x", 1, 20);
        fault("land hooks 6 gust 5,", 1, 19);
        fault("land hooks 6 gust 5;", 1, 20);
        fault("land hooks 6 gust 5", 6, 19);
        fault("land hooks 6 gust 5  ", 6, 21);
        fault("person p;land hooks 6 gust 5", 6, 0);
        fault("had", 6, 0);
        fault(" gate", 6, 1);
        fault(HEAD + "person p", 6, HEAD.length() + 8);
        faultIn("land hooks 1 gust 1", 3, 0);
        faultIn("landx", 1, 0);
        faultIn("person", 1, 6);
        faultIn("person 5", 1, 7);
        faultIn("person wants", 1, 7);
        faultIn("person abcdefgh;person abcdefghi", 1, 23);
        faultIn("person p", 3, 7);
        faultIn("person f", 3, 7);
        faultIn("person a", 3, 7);
        faultIn("person z5", 1, 8);
        faultIn("person z,", 1, 8);
        faultIn("firm f", 3, 5);
        faultIn("firm g", 1, 6);
        faultIn("firm g z", 2, 7);
        faultIn("firm g g", 2, 7);
        faultIn("firm g f", 2, 7);
        faultIn("firm g a", 2, 7);
        faultIn("firm g p,", 1, 9);
        faultIn("firm g p q", 1, 9);
        faultIn("firm g p,q,p", 3, 11);
        faultIn("firm g p,q,z", 2, 11);
        faultIn("firm g p,land", 1, 9);
        faultIn("gate c", 1, 6);
        faultIn("gate c plain", 1, 12);
        faultIn("gate c plane f", 1, 7);
        faultIn("gate c plain p", 2, 13);
        faultIn("gate c plain z", 2, 13);
        faultIn("gate c plain f 5", 1, 15);
        faultIn("gate c plain f worth 100", 4, 21);
        faultIn("gate c plain f worth none", 1, 21);
        faultIn("gate c plain f worth 99", 1, 23);
        faultIn("gate c plain f worth 99 beside", 1, 24);
        faultIn("gate c plain f worth 99 ahead behind", 1, 30);
        faultIn("gate a plain f worth 99 ahead", 3, 5);
    }

    private static void faultNumbersByPlace() {
        faultIn("path a", 1, 6);
        faultIn("path p", 2, 5);
        faultIn("path a z", 2, 7);
        faultIn("path a f", 2, 7);
        faultIn("path a a", 3, 7);
        faultIn("path a b;path a b", 3, 16);
        faultIn("path a b;path b a", 3, 16);
        faultIn("wants a", 2, 6);
        faultIn("wants p", 1, 7);
        faultIn("wants p q", 2, 8);
        faultIn("alone q f", 2, 8);
        faultIn("alone q a a", 1, 10);
        faultIn("lost p", 2, 5);
        faultIn("lost a;lost a", 3, 12);
        faultIn("lost 1", 1, 5);
        faultIn("had a", 2, 4);
        faultIn("had p", 1, 5);
        faultIn("had p x", 1, 6);
        faultIn("had p 600", 4, 6);
        faultIn("had p 599;had p", 3, 14);
        faultIn("had p 0;had q 1;had q", 3, 20);
        faultIn("lost a ? lost a", 1, 7);
        faultIn("lost a;\tlost b", 1, 7);
        sound(HEAD + BODY + ";wants p a;wants p a;alone p a;alone p a", 2);
        sound(HEAD + BODY + ";had q 599;had p 0;lost b;lost a", 2);
    }

    private static void manyAndNames() {
        faultIn("wants p a;wants p a;alone p a;alone p a;wants", 5, 40);
        faultIn("wants p a;wants p a;alone p a;alone p a;alone p a", 5, 40);
        faultIn("person r;person s;person t;person", 5, 27);
        faultIn("person r;person s;person t;firm g p,q,r,s,t,p", 3, 44);
        sound(HEAD + BODY + ";person r;person s;person t;firm g t,s,r,q,p", 2);
        sound(HEAD + BODY + ";firm g p;firm h p;firm i p", 2);
        faultIn("firm g p;firm h p;firm i p;firm", 5, 27);
        String gates = "gate c odd f worth 1 none;gate d odd f worth 1 none;gate e odd f worth 1 none;gate g odd f worth 1 none";
        sound(HEAD + BODY + ";" + gates, 6);
        faultIn(gates + ";gate", 5, gates.length() + 1);
        String lost = gates + ";lost a;lost b;lost c;lost d";
        sound(HEAD + BODY + ";" + lost, 6);
        faultIn(lost + ";lost", 5, lost.length() + 1);
        String paths = gates + ";path a b;path a c;path a d;path a e;path a g;path b c;path b d;path b e";
        sound(HEAD + BODY + ";" + paths, 6);
        faultIn(paths + ";path", 5, paths.length() + 1);
        sound("land hooks 1 gust 1;person gust;firm plain gust;gate odd odd plain worth 1 behind;wants gust odd", 1);
    }

    /** Names and words that are nearly alike. */
    private static void nearlyAlike() {
        String[] names = "a aa aaa ab b ba z az za zz r q p aq qa baa aab abc zzzzzzzz zzzzzzzy azzzzzzz aaaaaaaa aaaaaaa".split(" ");
        for (String one : names) {
            for (String other : names) {
                String text = "land hooks 1 gust 1;person " + one + ";person " + other + ";firm x " + other + "," + one
                    + ";gate y odd x worth 1 none";
                HookGates x = new HookGates();
                due(3, "names " + one + " and " + other, tell(x, text), one.equals(other) ? NONE : 1);
                due(4, "names " + one + " and " + other, x.fault(), one.equals(other) ? 3 : 0);
                due(8, "the head", x.firm(0, 0), one.equals(other) ? NONE : 1);
            }
        }
        for (String word : "land person firm gate path wants alone lost had".split(" ")) {
            faultIn("person " + word, 1, 7);
            faultIn("lost " + word, 1, 5);
            for (int i = 0; i < word.length(); i++) {
                String near = word.substring(0, i) + "x" + word.substring(i + 1);
                faultIn(near, 1, 0);
                sound(HEAD + BODY + ";person " + near, 2);
                sound(HEAD + BODY + ";person " + word.substring(0, i) + word.substring(i + 1), 2);
            }
            sound(HEAD + BODY + ";person " + word + "s", 2);
        }
        for (String word : "plain odd guarded loose".split(" ")) {
            sound(HEAD + BODY + ";gate c " + word + " f worth 0 none", 3);
            faultIn("gate c x" + word.substring(1) + " f worth 0 none", 1, 7);
            faultIn("gate c " + word.substring(1) + " f worth 0 none", 1, 7);
        }
        for (String word : "none ahead behind".split(" ")) {
            sound(HEAD + BODY + ";gate c odd f worth 0 " + word, 3);
            faultIn("gate c odd f worth 0 x" + word.substring(1), 1, 21);
        }
        faultIn("gate c odd f xorth 0 none", 1, 13);
        fault("land xooks 0 gust 0", 1, 5);
        fault("land hooks 0 xust 0", 1, 13);
    }

    private static void faultAndWhere() {
        HookGates x = new HookGates();
        tell(x, "land hooks 9");
        due(4, "fault", x.fault(), 4);
        due(5, "where", x.where(), 11);
        x.feed(0, 0, 0, 0, 0);
        x.size(99);
        due(5, "where behind calls that can't be refused", x.where(), 11);
        refused(5, x, "land", x.land(21), 2);
        due(4, "the fault stays behind 2", x.fault(), 4);
        due(5, "but not its place", x.where(), NONE);
        x.land(20);
        due(4, "another fault", x.fault(), 1);
        due(5, "another place", x.where(), 0);
        tell(x, ONE);
        due(4, "no fault", x.fault(), 0);
        due(5, "nowhere", x.where(), NONE);
        x.land(0);
        due(5, "its place", x.where(), 0);
        x.ground();
        due(5, "nowhere behind a call that went well", x.where(), NONE);
        due(4, "the fault stays", x.fault(), 1);
    }

    // ---- now

    private static void gate() {
        HookGates x = told(SIX);
        int[][] rows = {{0, 0, 99, 1, 1, 34}, {1, 1, 50, 0, 2, 5}, {3, 2, 31, 2, 28, 10},
            {0, 3, 12, 2, 31, 20}, {1, 3, 4, 1, 31, 40}, {2, 0, 8, 0, 0, 17}};
        for (int g = 0; g < 6; g++) {
            for (int what = 0; what < 6; what++) {
                due(6, "gate(" + g + ", " + what + ")", x.gate(g, what), rows[g][what]);
            }
        }
        due(6, "trouble", x.trouble(), 0);
        refused(6, x, "gate(6, 0)", x.gate(6, 0), 1);
        refused(6, x, "gate(-1, 0)", x.gate(-1, 0), 1);
        refused(6, x, "gate(0, 6)", x.gate(0, 6), 1);
        refused(6, x, "gate(0, -1)", x.gate(0, -1), 1);
        x.turnOver(1);
        x.turnOver(4);
        due(6, "an odd one behind is nobody's", x.gate(4, 4), 0);
        x.hang(1, false);
        due(6, "an odd one ahead is all's", x.gate(1, 4), 6);
        x.take(1);
        due(6, "an odd one without is its head's", x.gate(1, 4), 2);
        x.take(0);
        due(6, "a plain one without is nobody's", x.gate(0, 4), 0);
        due(6, "none hangs", x.gate(0, 3), 0);
        HookGates y = told(FOUR);
        y.turnOver(0);
        due(6, "a plain one behind is all's", y.gate(0, 4), 3);
    }

    private static void person() {
        HookGates x = told(SIX);
        // gd: 12 by five, ge: 4 by five, gc: 31 by three
        int[][] rows = {{101, 25, 1, 9}, {52, 26, 2, 10}, {12, 28, 0, 14}, {12, 28, 0, 12}, {12, 28, 0, 12}};
        for (int p = 0; p < 5; p++) {
            for (int what = 0; what < 4; what++) {
                due(7, "person(" + p + ", " + what + ")", x.person(p, what), rows[p][what]);
            }
        }
        refused(7, x, "person(5, 0)", x.person(5, 0), 1);
        refused(7, x, "person(-1, 0)", x.person(-1, 0), 1);
        refused(7, x, "person(0, 4)", x.person(0, 4), 1);
        refused(7, x, "person(0, -1)", x.person(0, -1), 1);
    }

    private static void firm() {
        HookGates x = told(SIX);
        int[][] rows = {{0, 1, 99}, {1, 6, 50}, {2, 28, 30}, {4, 31, 10}};
        for (int f = 0; f < 4; f++) {
            for (int what = 0; what < 3; what++) {
                due(8, "firm(" + f + ", " + what + ")", x.firm(f, what), rows[f][what]);
            }
        }
        refused(8, x, "firm(4, 0)", x.firm(4, 0), 1);
        refused(8, x, "firm(-1, 0)", x.firm(-1, 0), 1);
        refused(8, x, "firm(0, 3)", x.firm(0, 3), 1);
        refused(8, x, "firm(0, -1)", x.firm(0, -1), 1);
    }

    private static void commonsRichestGround() {
        HookGates x = told(SIX);
        due(9, "commons", x.commons(), 32);
        due(10, "richest", x.richest(), 0);
        due(11, "ground", x.ground(), 2);
        x.take(0);
        due(9, "commons", x.commons(), 33);
        due(10, "richest", x.richest(), 1);
        due(11, "ground", x.ground(), 3);
        x.hang(1, true);
        due(9, "commons", x.commons(), 35);
        due(10, "richest, the first of like ones", x.richest(), 2);
        due(11, "ground", x.ground(), 2);
        due(10, "richest of those who have nothing", told(ONE).richest(), 0);
    }

    private static void hasIf() {
        HookGates x = told(SIX);
        due(12, "as it is", x.hasIf(0, 0, 1), 101);
        due(12, "none", x.hasIf(0, 0, 0), 2);
        due(12, "alone behind", x.hasIf(0, 0, 2), 101);
        due(12, "odd ahead", x.hasIf(2, 1, 1), 37);
        due(12, "odd behind", x.hasIf(1, 1, 2), 2);
        due(12, "a guarded one", x.hasIf(0, 5, 2), 109);
        due(12, "nothing is done", x.gate(5, 3), 0);
        refused(12, x, "no person", x.hasIf(5, 0, 0), 1);
        refused(12, x, "no gate", x.hasIf(0, 6, 0), 1);
        refused(12, x, "no gate, no such way", x.hasIf(0, -1, 3), 1);
        refused(12, x, "no such way", x.hasIf(0, 0, 3), 2);
        refused(12, x, "no such way", x.hasIf(0, 0, -1), 2);
    }

    private static void can() {
        HookGates x = told(FOUR);
        String row = "";
        for (int move = 0; move < 16; move++) {
            row += x.can(move);
        }
        dueRow(13, "can", row, "0001" + "0001" + "1100" + "1100");
        x.hang(3, true);
        row = "";
        for (int move = 0; move < 16; move++) {
            row += x.can(move);
        }
        dueRow(13, "can without hooks on the ground", row, "0000" + "0000" + "1101" + "1101");
        x.take(0);
        due(13, "hang again", x.can(0) + x.can(4), 2);
        refused(13, x, "can(16)", x.can(16), 1);
        refused(13, x, "can(-1)", x.can(-1), 1);
    }

    // ---- errands

    private static void errand() {
        HookGates x = told(FOUR);
        due(14, "errand", x.errand(), 2);
        due(15, "errandAt(0)", x.errandAt(0), 3);
        due(15, "errandAt(1)", x.errandAt(1), 12);
        refused(15, x, "errandAt(2)", x.errandAt(2), 1);
        refused(15, x, "errandAt(-1)", x.errandAt(-1), 1);
        x.hang(3, true);
        due(14, "errand, both turned", x.errand(), 2);
        due(15, "first", x.errandAt(0), 12);
        due(15, "second", x.errandAt(1), 15);
        x.turnOver(3);
        x.turnOver(0);
        due(14, "all is met", x.errand(), 0);
        refused(15, x, "errandAt(0) of none", x.errandAt(0), 1);
        due(14, "nothing wanted", told(ONE).errand(), 0);
        HookGates y = told(ONE + ";wants p a");
        due(14, "no hook", y.errand(), -2);
        due(14, "that is no trouble", y.trouble(), 0);
        refused(15, y, "errandAt(0)", y.errandAt(0), 1);
        // the one hook must go from gate to gate
        HookGates z = told("land hooks 0 gust 0;person p;firm f p;gate a plain f worth 5 behind;"
            + "gate b plain f worth 5 none;wants p b");
        due(14, "taken, then hung", z.errand(), 2);
        due(15, "taken", z.errandAt(0), 4);
        due(15, "hung ahead, the first of two", z.errandAt(1), 1);
        HookGates w = told("land hooks 0 gust 0;person p;person q;firm f p,q;gate a plain f worth 5 behind;wants p a;alone q a");
        due(14, "one of two wants can't be", w.errand(), -2);
    }

    private static void met() {
        HookGates x = told(FOUR + ";alone p a;wants r c");
        due(16, "met", x.met(), 12);
        x.turnOver(0);
        due(16, "among owners, not alone", x.met(), 9);
        x.hang(3, false);
        due(16, "alone", x.met(), 11);
        due(16, "nothing wanted", told(ONE).met(), 0);
    }

    private static void movesForMostByReach() {
        HookGates x = told(FOUR);
        due(17, "as it is", x.movesFor(0, 13), 0);
        due(17, "0", x.movesFor(1, 0), 0);
        due(17, "one", x.movesFor(0, 14), 1);
        due(17, "one", x.movesFor(0, 23), 1);
        due(17, "two", x.movesFor(0, 24), 2);
        due(17, "two", x.movesFor(0, 32), 2);
        due(17, "too much", x.movesFor(0, 33), -2);
        due(17, "599", x.movesFor(0, 599), -2);
        due(17, "no trouble", x.trouble(), 0);
        refused(17, x, "600", x.movesFor(0, 600), 2);
        refused(17, x, "-1", x.movesFor(0, -1), 2);
        refused(17, x, "no person", x.movesFor(3, 600), 1);
        due(18, "0 moves", x.mostBy(0, 0), 13);
        due(18, "1", x.mostBy(0, 1), 23);
        due(18, "2", x.mostBy(0, 2), 32);
        due(18, "20", x.mostBy(0, 20), 32);
        due(18, "1 of q", x.mostBy(1, 1), 5);
        due(18, "2 of q", x.mostBy(1, 2), 9);
        refused(18, x, "21", x.mostBy(0, 21), 2);
        refused(18, x, "-1", x.mostBy(0, -1), 2);
        refused(18, x, "no person", x.mostBy(-1, 21), 1);
        due(19, "reach", x.reach(), 27);
        due(19, "reach of a land without moves", told(ONE).reach(), 1);
        due(19, "as many hooks as gates", told(SIX).reach(), 243);
        // two gates, one hook: none, or at either in two ways
        due(19, "few hooks", told("land hooks 1 gust 0;person p;firm f p;gate a plain f worth 5 none;"
            + "gate b plain f worth 5 none").reach(), 5);
        String six = "land hooks 6 gust 0;person p;person q;firm f p,q";
        for (String name : "a b c d e g".split(" ")) {
            six += ";gate " + name + " plain f worth 2 none";
        }
        HookGates y = told(six);
        due(19, "all ways of six gates", y.reach(), 729);
        due(17, "the farthest of them", y.movesFor(1, 6), 6);
        due(18, "the farthest of them", y.mostBy(1, 6), 6);
        due(18, "all but the farthest of them", y.mostBy(1, 5), 5);
        x.take(1);
        due(17, "reckoned from now", x.movesFor(0, 22), 0);
        due(18, "reckoned from now", x.mostBy(0, 0), 22);
    }

    // ---- covers, still ones

    private static void cover() {
        HookGates x = told(FOUR);
        due(20, "cover", x.cover(), 2);
        dueRow(21, "coverAt", "" + x.coverAt(0) + x.coverAt(1) + x.coverAt(2) + x.coverAt(3), "0120");
        refused(21, x, "coverAt(4)", x.coverAt(4), 1);
        refused(21, x, "coverAt(-1)", x.coverAt(-1), 1);
        HookGates y = told(ONE);
        due(20, "no hook", y.cover(), -2);
        due(21, "no hook", y.coverAt(0), -2);
        due(21, "no trouble", y.trouble(), 0);
        refused(21, y, "coverAt(1)", y.coverAt(1), 1);
        HookGates z = told("land hooks 1 gust 0;person p;firm f p;gate a plain f worth 5 none;gate b odd f worth 5 none");
        due(20, "an odd one needs none", z.cover(), 0);
        // 1 by 2 is nothing, so the gate of worth 2 must do
        HookGates w = told("land hooks 2 gust 0;person p;person q;firm f p,q;gate a plain f worth 1 none;gate b plain f worth 2 none");
        due(20, "downwards", w.cover(), 1);
        dueRow(21, "coverAt", "" + w.coverAt(0) + w.coverAt(1), "02");
        // hooks at a guarded gate count, but can't be hung elsewhere
        HookGates v = told("land hooks 0 gust 0;person p;person q;firm f p;firm g q;gate a guarded f worth 1 ahead;gate b plain g worth 1 none");
        due(20, "guarded", v.cover(), -2);
        HookGates u = told("land hooks 0 gust 0;person p;person q;firm f p;firm g q;gate a guarded f worth 1 ahead;"
            + "gate b plain g worth 1 none;gate c plain f worth 1 behind");
        due(20, "a hook from elsewhere", u.cover(), 2);
        dueRow(21, "coverAt", "" + u.coverAt(0) + u.coverAt(1) + u.coverAt(2), "110");
        u.take(2);
        due(20, "a hook on the ground", u.cover(), 2);
    }

    private static void still() {
        HookGates x = told(FOUR);
        due(23, "isStill", x.isStill(), 1);
        // a: none or ahead; b: none or behind; d: none or ahead
        due(22, "stills", x.stills(), 8);
        x.turnOver(0);
        due(23, "the head would turn it", x.isStill(), 0);
        x.turnOver(0);
        x.turnOver(1);
        due(23, "the head would take it", x.isStill(), 0);
        x.take(1);
        due(23, "none hangs", x.isStill(), 1);
        due(22, "of now nothing hangs", x.stills(), 8);
        due(22, "without hooks", told(ONE).stills(), 1);
        // one man has as much by either way, so he would turn nothing, nor take an odd one off
        due(22, "alone in his firm", told("land hooks 1 gust 0;person p;firm f p;gate a plain f worth 5 none").stills(), 3);
        due(22, "one hook for two", told("land hooks 1 gust 0;person p;firm f p;gate a plain f worth 5 none;gate b odd f worth 5 none").stills(), 5);
        HookGates y = told("land hooks 0 gust 0;person p;person q;firm f p,q;gate a guarded f worth 8 behind");
        due(23, "a guarded one can't be turned", y.isStill(), 1);
        due(22, "a guarded one can't be turned", y.stills(), 1);
        HookGates z = told("land hooks 0 gust 0;person p;person q;firm f p,q;gate a plain f worth 0 behind");
        due(23, "worth nothing", z.isStill(), 1);
        due(22, "worth nothing", z.stills(), 3);
    }

    private static void fairest() {
        HookGates x = told(FOUR);
        due(24, "fairest", x.fairest(), 9);
        dueRow(25, "fairAt", "" + x.fairAt(0) + x.fairAt(1) + x.fairAt(2) + x.fairAt(3), "2121");
        refused(25, x, "fairAt(4)", x.fairAt(4), 1);
        refused(25, x, "fairAt(-1)", x.fairAt(-1), 1);
        HookGates y = told(ONE);
        due(24, "nothing to have", y.fairest(), 0);
        due(25, "the first way", y.fairAt(0), 0);
        HookGates z = told("land hooks 0 gust 0;person p;person q;firm f p,q;gate a plain f worth 9 none;gate b plain f worth 6 behind");
        due(24, "the one hook where it is worth most", z.fairest(), 4);
        dueRow(25, "fairAt", "" + z.fairAt(0) + z.fairAt(1), "20");
        HookGates w = told("land hooks 0 gust 0;person p;person q;firm f p;gate a plain f worth 9 ahead");
        due(24, "one has nothing in any way", w.fairest(), 0);
        due(25, "the first way though another hangs now", w.fairAt(0), 0);
    }

    // ---- lost ones

    private static void fits() {
        HookGates x = told(FOUR);
        due(26, "fits", x.fits(), 3);
        dueRow(27, "fitAt", "" + x.fitAt(0, 0) + x.fitAt(0, 1) + x.fitAt(1, 0) + x.fitAt(1, 1) + x.fitAt(2, 0) + x.fitAt(2, 1), "021011");
        refused(27, x, "fitAt(3, 0)", x.fitAt(3, 0), 1);
        refused(27, x, "fitAt(-1, 0)", x.fitAt(-1, 0), 1);
        refused(27, x, "fitAt(0, 2)", x.fitAt(0, 2), 1);
        refused(27, x, "fitAt(0, -1)", x.fitAt(0, -1), 1);
        dueRow(28, "hungBy", "" + x.hungBy(0, 0) + x.hungBy(0, 1) + x.hungBy(0, 2) + x.hungBy(1, 0) + x.hungBy(1, 1) + x.hungBy(1, 2), "120111");
        refused(28, x, "hungBy(2, 0)", x.hungBy(2, 0), 1);
        refused(28, x, "hungBy(-1, 3)", x.hungBy(-1, 3), 1);
        refused(28, x, "hungBy(0, 3)", x.hungBy(0, 3), 2);
        refused(28, x, "hungBy(0, -1)", x.hungBy(0, -1), 2);
        x.take(0);
        x.take(1);
        due(26, "whatever hangs now", x.fits(), 3);
        due(26, "nothing lost", told(ONE).fits(), 1);
        due(26, "nothing lost, and belied", told(ONE + ";had p 5").fits(), 0);
        due(26, "whatever hooks there are", told(ONE + ";lost a;had p 5").fits(), 2);
        due(26, "nothing had", told(ONE + ";lost a").fits(), 3);
        due(26, "had 0", told(ONE + ";lost a;had p 0").fits(), 1);
        due(26, "a guarded one too", told("land hooks 0 gust 0;person p;firm f p;gate a guarded f worth 5 none;lost a").fits(), 3);
        HookGates y = told(SIX + ";lost gf;lost ga;lost gb;lost gc");
        due(26, "four lost", y.fits(), 81);
        dueRow(27, "the first lost one counts most", "" + y.fitAt(80, 0) + y.fitAt(29, 0) + y.fitAt(29, 1) + y.fitAt(29, 2) + y.fitAt(29, 3), "21002");
        due(28, "a third each", y.hungBy(3, 1), 27);
    }

    private static void look() {
        HookGates x = told(FOUR);
        due(29, "look", x.look(), 1);
        due(30, "lookLeaves", x.lookLeaves(), 1);
        HookGates y = told(ONE);
        due(29, "nothing lost", y.look(), -2);
        due(30, "nothing lost", y.lookLeaves(), -2);
        due(30, "no trouble", y.trouble(), 0);
        HookGates z = told(ONE + ";lost a;had p 6");
        due(29, "no fits", z.look(), -2);
        due(30, "no fits", z.lookLeaves(), -2);
        HookGates w = told(SIX + ";lost gf;lost ga");
        due(29, "the first of like ones", w.look(), 0);
        due(30, "a third", w.lookLeaves(), 3);
        HookGates v = told(SIX + ";lost ga;lost gf;had a 101");
        due(26, "ga hung, gf none", v.fits(), 2);
        due(29, "ga parts them", v.look(), 0);
        due(30, "one is left", v.lookLeaves(), 1);
        HookGates u = told(SIX + ";lost gf;lost ga;had a 101");
        due(29, "ga is the second lost one", u.look(), 1);
    }

    private static void judge() {
        due(31, "all had that", told(FOUR).judge(), -2);
        due(31, "nobody had", told(ONE).judge(), -2);
        HookGates x = told(SIX + ";had e 1;had c 12;had b 9;had a 101");
        due(31, "the first by numbers", x.judge(), 1);
        x.take(0);
        due(31, "as hooks hung at first", x.judge(), 1);
        due(31, "had nothing", told(ONE + ";had p 0").judge(), -2);
        due(31, "had something", told(ONE + ";lost a;had p 5").judge(), 0);
    }

    // ---- paths, sentries

    private static void apartPartsSentries() {
        HookGates x = told(SIX);
        int[] far = {0, 1, 2, 3, 2, 1};
        for (int g = 0; g < 6; g++) {
            for (int other = 0; other < 6; other++) {
                due(32, "apart(" + g + ", " + other + ")", x.apart(g, other), far[(other - g + 6) % 6]);
            }
        }
        refused(32, x, "apart(6, 0)", x.apart(6, 0), 1);
        refused(32, x, "apart(0, -1)", x.apart(0, -1), 1);
        due(33, "two opposite ones", x.sentries(), 9);
        due(34, "one part", x.parts(), 1);
        String row = SIX.substring(0, SIX.indexOf("path")) + "path ga gb;path gb gc;path gc gd;path gd ge;path ge gf";
        due(32, "a long way", told(row).apart(5, 0), 5);
        due(33, "a row", told(row).sentries(), 18);
        HookGates y = told(FOUR);
        due(32, "no way", y.apart(0, 3), -2);
        due(32, "no trouble", y.trouble(), 0);
        due(33, "sentries", y.sentries(), 10);
        due(34, "parts", y.parts(), 2);
        due(33, "one gate", told(ONE).sentries(), 1);
        due(34, "one gate", told(ONE).parts(), 1);
        String none = SIX.substring(0, SIX.indexOf(";path"));
        due(33, "without paths all", told(none).sentries(), 63);
        due(34, "without paths", told(none).parts(), 6);
    }

    private static void estate() {
        HookGates x = told(SIX);
        due(35, "a alone there", x.estate(0, 0), 99);
        due(35, "gd and ge hang together", x.estate(0, 3), 2);
        due(35, "gb is its own", x.estate(1, 1), 50);
        due(35, "gc, gd, ge", x.estate(2, 4), 12);
        due(35, "not his", x.estate(0, 1), 0);
        due(35, "not his", x.estate(2, 5), 0);
        x.hang(1, false);
        due(35, "gb to ge", x.estate(2, 1), 37);
        due(35, "gb, not through gc", x.estate(1, 1), 25);
        refused(35, x, "no person", x.estate(5, 0), 1);
        refused(35, x, "no gate", x.estate(0, 6), 1);
    }

    // ---- votes

    private static void power() {
        HookGates x = told(FOUR);
        due(36, "13 of 16", x.power(0, false), 1);
        due(36, "13 of 16", x.power(0, true), 1);
        due(36, "3 of 16", x.power(2, false), 0);
        due(36, "3 of 16", x.power(2, true), 1);
        due(36, "nothing", x.power(1, false), 0);
        due(36, "nothing", x.power(1, true), 1);
        refused(36, x, "no person", x.power(3, true), 1);
        refused(36, x, "no person", x.power(-1, false), 1);
        // 2, 1, 1 of 4: half is not more than half
        HookGates y = told("land hooks 0 gust 0;person p;person q;person r;person s;firm f p;firm g q;firm h r;"
            + "gate a plain f worth 2 ahead;gate b plain g worth 1 ahead;gate c plain h worth 1 ahead");
        due(36, "3 of 4", y.power(0, false), 3);
        due(36, "3 of 4", y.power(0, true), 4);
        due(36, "1 of 4", y.power(2, false), 1);
        due(36, "1 of 4", y.power(2, true), 4);
        due(36, "of one who has nothing", y.power(3, true), 1);
        // 1, 1, 1 of 3: each decides two of four
        HookGates z = told("land hooks 0 gust 0;person p;person q;person r;firm f q,p,r;gate a odd f worth 5 ahead");
        due(36, "in lowest terms", z.power(1, false), 1);
        due(36, "in lowest terms", z.power(1, true), 2);
    }

    private static void rule() {
        due(37, "one", told(FOUR).rule(), 1);
        HookGates x = told(SIX);
        // 101, 52, 12, 12, 12 of 189
        due(37, "more than half", x.rule(), 1);
        x.take(0);
        // 2, 52, 12, 12, 12 of 90
        due(37, "more than half", x.rule(), 2);
        x.hang(1, false);
        // 2, 27, 37, 12, 12 of 90
        due(37, "two", x.rule(), 6);
        due(37, "nobody", told(ONE).rule(), -2);
        HookGates z = told("land hooks 0 gust 0;person p;person q;person r;person s;firm f s,q,p,r;gate a odd f worth 4 ahead");
        due(37, "the least of like ones, half is too few", z.rule(), 7);
        HookGates w = told("land hooks 0 gust 0;person p;person q;firm f q;gate a odd f worth 4 none");
        due(37, "the second", w.rule(), 2);
    }

    // ---- a thief, a sentry

    private static void theft() {
        HookGates x = told(ONE);
        for (int worth = 0; worth <= 20; worth++) {
            due(38, "stolen unwatched", x.steal(worth, true, false, false), worth);
            due(38, "stolen unwatched", x.steal(worth, true, false, true), -worth);
            due(38, "stolen, watched", x.steal(worth, true, true, false), -3);
            due(38, "stolen, watched", x.steal(worth, true, true, true), 2);
            due(38, "not stolen, watched", x.steal(worth, false, true, false), 0);
            due(38, "not stolen, watched", x.steal(worth, false, true, true), -1);
            due(38, "neither", x.steal(worth, false, false, false), 0);
            due(38, "neither", x.steal(worth, false, false, true), 0);
            due(39, "rests at " + worth, x.rests(worth), worth == 0 ? 1 : 0);
            due(40, "rest at " + worth, x.rest(worth), worth == 0 ? 0 : -2);
        }
        due(38, "no trouble", x.trouble(), 0);
        for (int worth : new int[] {-1, 21}) {
            due(38, "refused", x.steal(worth, true, false, false), -100);
            due(38, "its trouble", x.trouble(), 2);
            refused(39, x, "rests", x.rests(worth), 2);
            refused(40, x, "rest", x.rest(worth), 2);
        }
    }

    // ---- gusts

    private static void holds() {
        HookGates x = told(SIX);
        dueRatio(41, "0 years", x.holds(0, 0, false), x.holds(0, 0, true), 1, 1);
        dueRatio(41, "1 year", x.holds(0, 1, false), x.holds(0, 1, true), 7, 10);
        dueRatio(41, "4 years", x.holds(0, 4, false), x.holds(0, 4, true), 2401, 10000);
        dueRatio(41, "a loose one", x.holds(2, 1, false), x.holds(2, 1, true), 2, 5);
        dueRatio(41, "a loose one", x.holds(2, 3, false), x.holds(2, 3, true), 8, 125);
        dueRatio(41, "none hangs", x.holds(1, 4, false), x.holds(1, 4, true), 1, 1);
        dueRatio(41, "guarded", x.holds(5, 4, false), x.holds(5, 4, true), 1, 1);
        refused(41, x, "5 years", x.holds(0, 5, false), 2);
        refused(41, x, "-1 years", x.holds(0, -1, true), 2);
        refused(41, x, "no gate", x.holds(6, 5, false), 1);
        HookGates y = told(SIX.replace("gust 30", "gust 51"));
        dueRatio(41, "100 at most", y.holds(2, 2, false), y.holds(2, 2, true), 0, 1);
        dueRatio(41, "100 at most, 0 years", y.holds(2, 0, false), y.holds(2, 0, true), 1, 1);
        dueRatio(41, "51 in 100", y.holds(0, 4, false), y.holds(0, 4, true), 5764801, 100000000);
        HookGates z = told(FOUR);
        dueRatio(41, "guarded, and one hangs", z.holds(2, 4, false), z.holds(2, 4, true), 1, 1);
    }

    private static void mean() {
        HookGates x = told(FOUR);
        dueRatio(42, "p", x.mean(0, false), x.mean(0, true), 25, 2);
        dueRatio(42, "q", x.mean(1, false), x.mean(1, true), 0, 1);
        dueRatio(42, "r", x.mean(2, false), x.mean(2, true), 3, 1);
        x.hang(3, false);
        dueRatio(42, "a loose one falls surely", x.mean(2, false), x.mean(2, true), 3, 1);
        refused(42, x, "no person", x.mean(3, false), 1);
        HookGates y = told(SIX);
        // 99 of ga, 2 of gd by 7 in 10; of ge none either way
        dueRatio(42, "a", y.mean(0, false), y.mean(0, true), 707, 10);
        // ge fallen is e's alone: 4 of it by 3 in 10; gc 10 by 4 in 10; gd 2 by 7 in 10
        dueRatio(42, "e", y.mean(4, false), y.mean(4, true), 33, 5);
    }

    private static void keeps() {
        HookGates x = told(FOUR);
        dueRatio(43, "13", x.keeps(0, 13, false), x.keeps(0, 13, true), 1, 2);
        dueRatio(43, "12", x.keeps(0, 12, false), x.keeps(0, 12, true), 3, 4);
        dueRatio(43, "3", x.keeps(0, 3, false), x.keeps(0, 3, true), 1, 1);
        dueRatio(43, "22", x.keeps(0, 22, false), x.keeps(0, 22, true), 1, 4);
        dueRatio(43, "23", x.keeps(0, 23, false), x.keeps(0, 23, true), 0, 1);
        dueRatio(43, "599", x.keeps(0, 599, false), x.keeps(0, 599, true), 0, 1);
        dueRatio(43, "0", x.keeps(1, 0, false), x.keeps(1, 0, true), 1, 1);
        refused(43, x, "600", x.keeps(0, 600, false), 2);
        refused(43, x, "-1", x.keeps(0, -1, false), 2);
        refused(43, x, "no person", x.keeps(3, 600, false), 1);
        HookGates y = told(SIX.replace("gust 30", "gust 33"));
        // 10 of gc and 2 of gd stay, and ge falls to e: 34 by 100, 67 by 100, 33 by 100
        dueRatio(43, "e, 16", y.keeps(4, 16, false), y.keeps(4, 16, true), 34 * 67 * 33 / 2, 1000000 / 2);
    }

    private static void centuryBare() {
        HookGates x = told(FOUR);
        due(44, "0 years", x.century(0, 0, 0), 13);
        due(44, "1 year", x.century(0, 0, 1), 22);
        due(44, "2 years", x.century(0, 0, 2), 22);
        due(44, "nothing is done", x.person(0, 0), 13);
        due(44, "the seed stays", x.size(10), 0);
        due(44, "60 years", x.century(0, 65536, 60), 12);
        refused(44, x, "61 years", x.century(0, 0, 61), 2);
        refused(44, x, "-1 years", x.century(0, 0, -1), 2);
        refused(44, x, "seed 65537", x.century(0, 65537, 0), 2);
        refused(44, x, "seed -1", x.century(0, -1, 0), 2);
        refused(44, x, "no person", x.century(3, -1, 61), 1);
        due(45, "bare", x.bare(0, 60), 4);
        due(45, "too few years", x.bare(0, 3), -2);
        due(45, "just enough", x.bare(0, 4), 4);
        due(45, "no trouble", x.trouble(), 0);
        refused(45, x, "61 years", x.bare(0, 61), 2);
        refused(45, x, "-1 years", x.bare(0, -1), 2);
        refused(45, x, "seed 65537", x.bare(65537, 0), 2);
        refused(45, x, "seed -1", x.bare(-1, 0), 2);
        x.take(0);
        x.take(1);
        due(45, "one at a guarded gate is left", x.bare(7, 0), 0);
        due(45, "no gusts", told(SIX.replace("gust 30", "gust 0")).bare(1, 60), -2);
        due(45, "all fall", told(SIX.replace("gust 30", "gust 100")).bare(1, 60), 1);
    }

    // ---- acts

    private static void hangTakeTurn() {
        HookGates x = told(FOUR);
        denied(46, x, "one hangs", x.hang(0, true), 5);
        denied(46, x, "one hangs at a guarded one", x.hang(2, true), 5);
        denied(46, x, "no gate", x.hang(4, true), 1);
        denied(46, x, "no gate", x.hang(-1, true), 1);
        due(46, "nothing was done", x.size(11), 0);
        due(46, "hang ahead", x.hang(3, false), true);
        due(46, "trouble", x.trouble(), 0);
        due(46, "it hangs", x.gate(3, 3), 1);
        due(46, "none lies", x.ground(), 0);
        due(46, "an act", x.size(11), 1);
        due(47, "take", x.take(3), true);
        due(47, "trouble", x.trouble(), 0);
        due(47, "none hangs", x.gate(3, 3), 0);
        due(47, "it lies", x.ground(), 1);
        due(47, "an act", x.size(11), 2);
        denied(47, x, "none hangs", x.take(3), 5);
        denied(47, x, "guarded", x.take(2), 6);
        denied(47, x, "no gate", x.take(4), 1);
        denied(47, x, "no gate", x.take(-1), 1);
        due(46, "hang behind", x.hang(3, true), true);
        due(46, "it hangs", x.gate(3, 3), 2);
        due(48, "turn", x.turnOver(3), 1);
        due(48, "turn", x.turnOver(3), 2);
        due(48, "trouble", x.trouble(), 0);
        due(48, "it hangs", x.gate(3, 3), 2);
        due(48, "acts", x.size(11), 5);
        refused(48, x, "guarded", x.turnOver(2), 6);
        refused(48, x, "no gate", x.turnOver(4), 1);
        refused(48, x, "no gate", x.turnOver(-1), 1);
        x.take(3);
        refused(48, x, "none hangs", x.turnOver(3), 5);
        HookGates y = told(SIX);
        denied(46, y, "guarded", y.hang(5, false), 6);
        denied(47, y, "none hangs at a guarded one", y.take(5), 5);
        refused(48, y, "none hangs at a guarded one", y.turnOver(5), 5);
        HookGates z = told(ONE);
        denied(46, z, "none on the ground", z.hang(0, false), 6);
    }

    private static void gustSeed() {
        HookGates x = told(FOUR);
        due(49, "gust", x.gust(), 1);
        due(49, "trouble", x.trouble(), 0);
        dueRow(49, "b fell", hungs(x, 4), "1020");
        due(49, "it lies", x.ground(), 2);
        due(49, "year", x.size(9), 1);
        due(49, "seed", x.size(10), 5624);
        due(49, "an act", x.size(11), 1);
        due(49, "gust", x.gust(), 0);
        due(49, "seed", x.size(10), 28652);
        due(49, "gust", x.gust(), 0);
        due(49, "seed", x.size(10), 51790);
        due(49, "gust", x.gust(), 1);
        due(49, "a fell", x.gate(0, 3), 0);
        due(49, "gust without hooks", x.gust(), 0);
        due(49, "year", x.size(9), 5);
        due(49, "no draw for none", x.size(10), 17641);
        due(50, "seed", x.seed(65536), true);
        due(50, "trouble", x.trouble(), 0);
        due(50, "seed", x.size(10), 65536);
        due(50, "no act", x.size(11), 5);
        denied(50, x, "seed(65537)", x.seed(65537), 2);
        denied(50, x, "seed(-1)", x.seed(-1), 2);
        due(50, "it stays", x.size(10), 65536);
        due(50, "seed(0)", x.seed(0), true);
        // a hook that can't fall takes its draw all the same; below 30 falls, 30 does not
        HookGates y = told(SIX.replace("gust 30", "gust 0"));
        due(49, "none falls", y.gust(), 0);
        due(49, "four draws", y.size(10), draws(0, 4));
        HookGates z = told("land hooks 0 gust 74;person p;firm f p;gate a plain f worth 5 ahead");
        due(49, "74 is not below 74", z.gust(), 0);
        z = told("land hooks 0 gust 75;person p;firm f p;gate a plain f worth 5 ahead");
        due(49, "74 is below 75", z.gust(), 1);
        z = told("land hooks 0 gust 38;person p;firm f p;gate a loose f worth 5 ahead");
        due(49, "74 is below 76", z.gust(), 1);
    }

    private static void undo() {
        HookGates x = told(FOUR);
        denied(51, x, "nothing to undo", x.undo(), 6);
        x.seed(9);
        x.gust();
        x.seed(5);
        due(51, "undo", x.undo(), true);
        due(51, "trouble", x.trouble(), 0);
        due(51, "the seed too", x.size(10), 9);
        due(51, "the year too", x.size(9), 0);
        dueRow(51, "the hooks", hungs(x, 4), "1220");
        denied(51, x, "nothing to undo", x.undo(), 6);
        for (int i = 0; i < 8; i++) {
            x.turnOver(0);
            x.turnOver(1);
        }
        due(51, "16", x.size(11), 16);
        x.take(0);
        due(51, "16 are kept", x.size(11), 16);
        for (int i = 0; i < 16; i++) {
            due(51, "undo " + i, x.undo(), true);
        }
        dueRow(51, "all but the first", hungs(x, 4), "2220");
        denied(51, x, "nothing to undo", x.undo(), 6);
        x.hang(0, true);
        due(51, "a refused one is no act", x.size(11), 0);
        HookGates y = told("land hooks 0 gust 0;person p;firm f p;gate a plain f worth 1 ahead");
        for (int i = 0; i < 20; i++) {
            y.gust();
        }
        for (int i = 15; i >= 0; i--) {
            due(51, "undo", y.undo(), true);
            due(51, "the year of each", y.size(9), 4 + i);
            due(51, "the seed of each", y.size(10), draws(0, 4 + i));
        }
    }

    private static void images() {
        HookGates x = told(FOUR);
        denied(53, x, "no image", x.back(0), 1);
        due(52, "image", x.image(), 0);
        due(52, "trouble", x.trouble(), 0);
        x.take(0);
        x.seed(123);
        due(52, "image", x.image(), 1);
        due(52, "no act", x.size(11), 1);
        x.gust();
        due(52, "image", x.image(), 2);
        refused(52, x, "no room", x.image(), 3);
        due(52, "three", x.size(12), 3);
        due(53, "back", x.back(1), true);
        due(53, "trouble", x.trouble(), 0);
        dueRow(53, "hooks", hungs(x, 4), "0220");
        due(53, "ground", x.ground(), 2);
        due(53, "seed", x.size(10), 123);
        due(53, "year", x.size(9), 0);
        due(53, "all images stay", x.size(12), 3);
        denied(53, x, "nothing to undo", x.undo(), 6);
        x.take(1);
        due(53, "back to the first", x.back(0), true);
        dueRow(53, "hooks", hungs(x, 4), "1220");
        due(53, "seed", x.size(10), 0);
        due(53, "back to the third", x.back(2), true);
        due(53, "year", x.size(9), 1);
        due(53, "nothing to undo", x.size(11), 0);
        denied(53, x, "no image", x.back(3), 1);
        denied(53, x, "no image", x.back(-1), 1);
    }

    // ---- what is told

    private static void led() {
        HookGates x = told(FOUR);
        x.gate(99, 0);
        due(54, "q", ledOrThrown(x, 0), 1);
        due(54, "no more", ledOrThrown(x, 1), THROWN);
        due(54, "-1", ledOrThrown(x, -1), THROWN);
        due(54, "the trouble of another call", x.trouble(), 1);
        x.take(0);
        due(54, "p still has of c", ledOrThrown(x, 0), 1);
        HookGates y = told("land hooks 0 gust 0;person p;person q;person r;firm f q;gate a plain f worth 1 ahead");
        due(54, "first", ledOrThrown(y, 0), 0);
        due(54, "second", ledOrThrown(y, 1), 2);
        due(54, "third", ledOrThrown(y, 2), THROWN);
        due(54, "without a land", ledOrThrown(new HookGates(), 0), THROWN);
    }

    private static void size() {
        HookGates x = told(FOUR);
        x.take(0);
        x.gust();
        x.image();
        x.feed(0, 0, 0, 0, 0);
        int[] sizes = {1, 50, 3, 2, 4, 2, 2, 2, 1, 1, 74, 2, 1, 20};
        for (int what = 0; what < sizes.length; what++) {
            due(55, "size(" + what + ")", x.size(what), sizes[what]);
        }
        x.can(0);
        due(55, "size(14)", x.size(14), NONE);
        due(55, "size(-1)", x.size(-1), NONE);
        due(55, "that is no trouble", x.trouble(), 0);
        HookGates y = told(SIX);
        int[] others = {2, 30, 5, 4, 6, 6, 0, 0, 0};
        for (int what = 0; what < others.length; what++) {
            due(55, "size(" + what + ") of six", y.size(what), others[what]);
        }
    }

    private static void trouble() {
        HookGates x = told(FOUR);
        x.gate(9, 9);
        x.size(99);
        x.fault();
        x.where();
        x.feed(0, 0, 0, 0, 0);
        ledOrThrown(x, 99);
        due(56, "of the latest that may be refused", x.trouble(), 1);
        due(56, "told again", x.trouble(), 1);
        x.judge();
        due(56, "it wasn't", x.trouble(), 0);
        x.hasIf(0, 0, 9);
        due(56, "a number", x.trouble(), 2);
        x.cover();
        due(56, "it wasn't", x.trouble(), 0);
        x.take(2);
        due(56, "there is none", x.trouble(), 6);
        x.movesFor(0, 599);
        due(56, "-2 is no refusal", x.trouble(), 0);
    }

    /** Every call that needs a LAND tells 1 without one, whatever its numbers. */
    private static void withoutLand() {
        HookGates x = new HookGates();
        refused(6, x, "gate", x.gate(0, 0), 1);
        refused(7, x, "person", x.person(0, 0), 1);
        refused(8, x, "firm", x.firm(0, 0), 1);
        refused(9, x, "commons", x.commons(), 1);
        refused(10, x, "richest", x.richest(), 1);
        refused(11, x, "ground", x.ground(), 1);
        refused(12, x, "hasIf", x.hasIf(0, 0, 9), 1);
        refused(13, x, "can", x.can(0), 1);
        refused(14, x, "errand", x.errand(), 1);
        refused(15, x, "errandAt", x.errandAt(0), 1);
        refused(16, x, "met", x.met(), 1);
        refused(17, x, "movesFor", x.movesFor(0, 999), 1);
        refused(18, x, "mostBy", x.mostBy(0, 999), 1);
        refused(19, x, "reach", x.reach(), 1);
        refused(20, x, "cover", x.cover(), 1);
        refused(21, x, "coverAt", x.coverAt(0), 1);
        refused(22, x, "stills", x.stills(), 1);
        refused(23, x, "isStill", x.isStill(), 1);
        refused(24, x, "fairest", x.fairest(), 1);
        refused(25, x, "fairAt", x.fairAt(0), 1);
        refused(26, x, "fits", x.fits(), 1);
        refused(27, x, "fitAt", x.fitAt(0, 0), 1);
        refused(28, x, "hungBy", x.hungBy(0, 9), 1);
        refused(29, x, "look", x.look(), 1);
        refused(30, x, "lookLeaves", x.lookLeaves(), 1);
        refused(31, x, "judge", x.judge(), 1);
        refused(32, x, "apart", x.apart(0, 0), 1);
        refused(33, x, "sentries", x.sentries(), 1);
        refused(34, x, "parts", x.parts(), 1);
        refused(35, x, "estate", x.estate(0, 0), 1);
        refused(36, x, "power", x.power(0, true), 1);
        refused(37, x, "rule", x.rule(), 1);
        due(38, "steal", x.steal(99, true, true, true), -100);
        due(38, "its trouble", x.trouble(), 1);
        refused(39, x, "rests", x.rests(99), 1);
        refused(40, x, "rest", x.rest(99), 1);
        refused(41, x, "holds", x.holds(0, 9, true), 1);
        refused(42, x, "mean", x.mean(0, true), 1);
        refused(43, x, "keeps", x.keeps(0, 999, true), 1);
        refused(44, x, "century", x.century(0, -1, -1), 1);
        refused(45, x, "bare", x.bare(-1, -1), 1);
        denied(46, x, "hang", x.hang(0, true), 1);
        denied(47, x, "take", x.take(0), 1);
        refused(48, x, "turnOver", x.turnOver(0), 1);
        refused(49, x, "gust", x.gust(), 1);
        denied(50, x, "seed", x.seed(-1), 1);
        denied(51, x, "undo", x.undo(), 6);
        refused(52, x, "image", x.image(), 1);
        denied(53, x, "back", x.back(0), 1);
    }
}
