/** Promises 1 to 5 and definition I: each sentence that names a boundary case, by a test of its own. */
public final class TextBoundTests extends Checks {
    private static final String BASE = "land hooks 1 gust 5;person p;person q;firm f p,q;"
        + "gate a plain f worth 5 none;gate b odd f worth 5 ahead";
    private static final String FOUR_MORE_GATES = ";gate c odd f worth 1 none;gate d odd f worth 1 none;"
        + "gate e odd f worth 1 none;gate g odd f worth 1 none";
    private static final String[] LINE_WORDS = "land person firm gate path wants alone lost had".split(" ");
    private static final int FORM = 1;
    private static final int UNTOLD = 2;
    private static final int AGAIN = 3;
    private static final int BOUNDS = 4;
    private static final int MANY = 5;
    private static final int LACKS = 6;

    public static void main(String[] args) {
        newObject();
        feed();
        feedFull();
        landNumbers();
        landAnew();
        landKept();
        fault();
        where();
        blanks();
        words();
        wholes();
        singleOnes();
        lines();
        landLine();
        personAndFirmLines();
        gateLine();
        pathLine();
        wantLines();
        lostAndHadLines();
        names();
        orderOfFaults();
        formFaults();
        nameFaults();
        againFaults();
        boundsFaults();
        manyFaults();
        lacksFaults();
        finish(1, 5);
    }

    // ---- texts by their FAULTS

    /** Texts with a FAULT, which is at the sign ^ that is left out. */
    private static void faults(int promise, String words, int number, String... marked) {
        for (String one : marked) {
            int place = one.indexOf('^');
            String text = one.substring(0, place) + one.substring(place + 1);
            sentence(promise, words, x -> {
                refused(x, "land of " + one, tell(x, text), 4);
                due("fault of " + one, x.fault(), number);
                due("where of " + one, x.where(), place);
            });
        }
    }

    /** Likewise, each behind a sound beginning. */
    private static void faultsBehind(int promise, String words, int number, String... marked) {
        for (String one : marked) {
            faults(promise, words, number, BASE + ";" + one);
        }
    }

    private static void sounds(String words, int gates, String... texts) {
        for (String text : texts) {
            sentence(3, words, x -> {
                granted(x, "land of " + text, tell(x, text), gates);
                due("fault of " + text, x.fault(), 0);
                due("where of " + text, x.where(), NONE);
            });
        }
    }

    private static void soundsBehind(String words, int gates, String... texts) {
        for (String text : texts) {
            sounds(words, gates, BASE + ";" + text);
        }
    }

    /** A text without a FAULT, and what one call tells of it. */
    private static void soundWith(String words, String text, int what, int due) {
        sentence(3, words, text, x -> due("size(" + what + ") of " + text, x.size(what), due));
    }

    // ---- promises 1 to 5

    private static void newObject() {
        sentence(1, "No LAND.", x -> {
            for (int what = 0; what <= 13; what++) {
                due("size(" + what + ")", x.size(what), 0);
            }
        });
        sentence(1, "No LAND.", x -> due("trouble", x.trouble(), 0));
        sentence(1, "No LAND.", x -> due("fault", x.fault(), 0));
        sentence(1, "No LAND.", x -> due("where", x.where(), NONE));
        sentence(1, "No LAND.", x -> refused(x, "ground", x.ground(), 1));
        sentence(1, "No LAND (though other objects have one)", x -> {
            HookGates other = told(FOUR);
            other.gust();
            other.gate(-1, 0);
            feedBlanks(other);
            HookGates third = new HookGates();
            for (HookGates fresh : new HookGates[] {x, third}) {
                due("trouble", fresh.trouble(), 0);
                refused(fresh, "ground", fresh.ground(), 1);
                for (int what = 0; what <= 13; what++) {
                    due("size(" + what + ")", fresh.size(what), 0);
                }
            }
            tell(x, ONE);
            due("the other LAND stays", other.size(4), 4);
            due("the other TAPE stays", other.size(13), 20);
            due("the other TROUBLE stays", other.trouble(), 1);
        });
        sentence(1, "NONE = -1", x -> due("NONE", HookGates.NONE, -1));
        sentence(1, "An object is used for at most 512 calls", x -> {
            // a size and four feeds and a land, then 504 gusts, what they come to, and the 512th
            due("sixth call", tell(x, ONE), 1);
            for (int call = 7; call <= 510; call++) {
                due("gust", x.gust(), 0);
            }
            due("511th call", x.size(9), 504);
            due("512th call", x.gust(), 0);
        });
    }

    private static void feed() {
        sentence(2, "Twenty bytes come behind THE TAPE", x -> {
            due("first", feedText(x, "land hooks 0 gust 0 ;"), 40);
            due("second", feedText(x, "person p;firm f p;   "), 80);
            due("third", feedText(x, "gate a odd f worth 0 none"), 120);
            due("all", x.land(120), 1);
        });
        for (int place = 0; place < 20; place++) {
            int stray = place;
            sentence(2, "of each number the highest first", x -> {
                int[] five = {BLANKS, BLANKS, BLANKS, BLANKS, BLANKS};
                five[stray / 4] ^= (' ' ^ '?') << 24 - 8 * (stray % 4);
                due("fed", x.feed(five[0], five[1], five[2], five[3], five[4]), 20);
                due("land", x.land(20), NONE);
                due("where", x.where(), stray);
            });
        }
        for (int number : new int[] {Integer.MIN_VALUE, Integer.MAX_VALUE, -1, 0}) {
            sentence(2, "Twenty bytes come behind THE TAPE", x -> {
                feedBlanks(x);
                due("feed " + number, x.feed(number, number, number, number, number), 40);
                due("land", x.land(40), NONE);
                due("where", x.where(), 20);
            });
        }
    }

    private static void feedFull() {
        sentence(2, "how many it has", x -> {
            for (int fed = 20; fed <= 900; fed += 20) {
                due("feed", feedBlanks(x), fed);
                due("size(13)", x.size(13), fed);
            }
        });
        sentence(2, "NONE, and none comes, if there would be more than 900", x -> {
            feedBlanksUpTo(x, 880);
            due("feed up to 900", x.feed(BLANKS, BLANKS, BLANKS, BLANKS, 0x2020203f), 900);
            due("feed beyond", x.feed(0, 0, 0, 0, 0), NONE);
            due("and again", x.feed(0, 0, 0, 0, 0), NONE);
            due("bytes", x.size(13), 900);
            due("land", x.land(900), NONE);
            due("the last byte that came", x.where(), 899);
        });
        sentence(2, "NONE, and none comes", x -> {
            x.land(1);
            feedBlanksUpTo(x, 900);
            due("feed beyond", feedBlanks(x), NONE);
            due("no number is told, so TROUBLE is that of land", x.trouble(), 2);
        });
        sentence(2, "NONE, and none comes, if there would be more than 900", x -> {
            feedBlanksUpTo(x, 900);
            due("feed beyond", feedBlanks(x), NONE);
            x.land(0);
            due("feed behind a land", feedBlanks(x), 20);
        });
        sentence(3, "THE TAPE has 900 bytes", x -> {
            due("a LAND that ends with the last byte", tell(x, padded(ONE, 900)), 1);
        });
        sentence(3, "THE TAPE has 900 bytes", x -> {
            feedText(x, padded(ONE, 900));
            due("all but the last byte", x.land(899), NONE);
            due("its last TOKEN is no HOOK", x.where(), 896);
        });
    }

    private static void feedBlanksUpTo(HookGates x, int most) {
        while (x.size(13) < most) {
            feedBlanks(x);
        }
    }

    /** A text of so many bytes, by blanks ahead of its last WORD. */
    private static String padded(String text, int bytes) {
        int last = text.lastIndexOf(' ');
        return text.substring(0, last) + " ".repeat(bytes - text.length()) + text.substring(last);
    }

    private static void landNumbers() {
        for (int n : new int[] {Integer.MIN_VALUE, -1, 81, Integer.MAX_VALUE}) {
            sentence(3, "NONE: 2 (THE TAPE stays)", x -> {
                due("fed", feedText(x, ONE), 80);
                refused(x, "land(" + n + ") of 80 bytes", x.land(n), 2);
                due("fault", x.fault(), 0);
                due("bytes", x.size(13), 80);
                granted(x, "land of the TAPE that stayed", x.land(80), 1);
            });
        }
        for (int n : new int[] {-1, 1}) {
            sentence(3, "NONE: 2 (nor is there another LAND then)", FOUR, x -> {
                x.take(0);
                x.image();
                refused(x, "land(" + n + ")", x.land(n), 2);
                dueRow("hooks", hungs(x, 4), "0220");
                due("ACTS", x.size(11), 1);
                due("IMAGES", x.size(12), 1);
            });
        }
        for (int n : new int[] {-1, 1, 20, 900}) {
            sentence(3, "NONE: 2 (of an empty TAPE)", x -> refused(x, "land(" + n + ")", x.land(n), 2));
        }
        for (int n : new int[] {901, 920}) {
            sentence(3, "NONE: 2 (of a full TAPE)", x -> {
                feedBlanksUpTo(x, 900);
                refused(x, "land(" + n + ")", x.land(n), 2);
                due("bytes", x.size(13), 900);
            });
        }
        sentence(3, "The first n bytes of THE TAPE (none of them)", x -> {
            refused(x, "land(0)", x.land(0), 4);
            due("where", x.where(), 0);
        });
        sentence(3, "The first n bytes of THE TAPE (none of those that came)", x -> {
            feedText(x, ONE);
            refused(x, "land(0)", x.land(0), 4);
            due("where", x.where(), 0);
            due("bytes", x.size(13), 0);
        });
        sentence(3, "The first n bytes of THE TAPE (all of them)", x -> {
            feedText(x, ONE);
            granted(x, "land(80)", x.land(80), 1);
        });
        sentence(3, "The first n bytes of THE TAPE (those behind them tell nothing)", x -> {
            feedText(x, ONE + " ? person land");
            granted(x, "land", x.land(ONE.length()), 1);
        });
        sentence(3, "The first n bytes of THE TAPE (one too few)", x -> {
            feedText(x, ONE);
            refused(x, "land", x.land(ONE.length() - 1), 4);
            due("where", x.where(), ONE.lastIndexOf("none"));
        });
        sentence(3, "The first n bytes of THE TAPE (a WHOLE ends there)", x -> {
            String text = ONE.replace("none", "ahead") + ";had p 5";
            feedText(x, text + "9");
            granted(x, "land", x.land(text.length()), 1);
            due("he had 5, not 59", x.judge(), -2);
        });
        sentence(3, "The first n bytes of THE TAPE (a NAME ends there)", x -> {
            String text = ONE + ";person qx;wants p a;lost a";
            feedText(x, text + "b");
            granted(x, "land", x.land(text.length()), 1);
            due("lost", x.size(7), 1);
        });
        sentence(3, "it is empty then", x -> {
            tell(x, ONE);
            due("bytes", x.size(13), 0);
            refused(x, "land(1)", x.land(1), 2);
            due("feed", feedBlanks(x), 20);
        });
        sentence(3, "it is empty then (by 4 too)", x -> {
            feedText(x, ONE);
            x.land(3);
            due("bytes", x.size(13), 0);
            due("feed", feedBlanks(x), 20);
        });
        sentence(3, "how many gates (the fewest)", x -> granted(x, "land", tell(x, ONE), 1));
        sentence(3, "how many gates (the most)", x -> granted(x, "land", tell(x, SIX), 6));
    }

    /** What a LAND told anew leaves of the one ahead of it, of which everything is at its most. */
    private static void landAnew() {
        Calls busy = x -> {
            tell(x, FOUR);
            for (int i = 0; i < 20; i++) {
                x.gust();
            }
            x.seed(65536);
            x.image();
            x.image();
            x.image();
            tell(x, ONE);
        };
        sentenceBehind(busy, "SEED 0", x -> due("size(10)", x.size(10), 0));
        sentenceBehind(busy, "year 0", x -> due("size(9)", x.size(9), 0));
        sentenceBehind(busy, "nothing to undo", x -> due("size(11)", x.size(11), 0));
        sentenceBehind(busy, "nothing to undo", x -> denied(x, "undo", x.undo(), 6));
        sentenceBehind(busy, "no IMAGES", x -> due("size(12)", x.size(12), 0));
        sentenceBehind(busy, "no IMAGES", x -> denied(x, "back(0)", x.back(0), 1));
        sentenceBehind(busy, "no IMAGES", x -> granted(x, "image", x.image(), 0));
        sentenceBehind(busy, "are the LAND from now on", x -> {
            int[] sizes = {0, 0, 1, 1, 1, 0, 0, 0, 0};
            for (int what = 0; what < sizes.length; what++) {
                due("size(" + what + ")", x.size(what), sizes[what]);
            }
        });
        sentenceBehind(busy, "are the LAND from now on", x -> {
            due("paths", x.gate(0, 5), 0);
            due("reach", x.reach(), 1);
            due("cover", x.cover(), -2);
            due("fits", x.fits(), 1);
            due("look", x.look(), -2);
            due("met", x.met(), 0);
            due("judge", x.judge(), -2);
        });
        sentence(3, "are the LAND from now on (all that was reckoned of another one)", x -> {
            // hooks hang alike in both, so that nothing but the LAND itself is other
            tell(x, withGates("land hooks 1 gust 0;person p;firm f p", 1, "plain f worth 5 none"));
            due("reach", x.reach(), 3);
            due("cover", x.cover(), 1);
            due("stills", x.stills(), 3);
            due("fairest", x.fairest(), 5);
            due("fits", x.fits(), 1);
            tell(x, withGates("land hooks 1 gust 0;person p;firm f p", 2, "odd f worth 6 none") + ";lost ga;had p 12");
            due("reach", x.reach(), 5);
            due("cover", x.cover(), 0);
            due("stills", x.stills(), 5);
            due("fairest", x.fairest(), 12);
            due("fits", x.fits(), 2);
        });
        String more = SIX + ";wants a ga;alone b gb;lost ga;lost gb;had a 1;had b 2";
        for (String ahead : new String[] {more + ";?", more + ";lost gb", more}) {
            // a text that is told thrice has been wherever a LAND may be kept
            Calls thrice = x -> {
                tell(x, ahead);
                tell(x, ahead);
                tell(x, ahead);
            };
            String words = "are the LAND from now on (nothing is left of texts ahead: " + ahead.substring(more.length()) + ")";
            sentenceBehind(thrice, words, x -> {
                due("land", tell(x, ONE), 1);
                int[] sizes = {0, 0, 1, 1, 1, 0, 0, 0, 0, 0, 0, 0, 0, 0};
                for (int what = 0; what < sizes.length; what++) {
                    due("size(" + what + ")", x.size(what), sizes[what]);
                }
                dueOfNothing(x, 1);
                due("no other hook", x.cover(), -2);
                due("no other hook", x.fairest(), 0);
                due("no other hook", x.bare(0, 0), 0);
            });
            sentenceBehind(thrice, words, x -> {
                due("land", tell(x, withGates("land hooks 0 gust 0;person p;firm f p", 6, "plain f worth 5 none")), 6);
                dueOfNothing(x, 6);
            });
            sentenceBehind(thrice, words, x -> {
                due("land", tell(x, withGates("land hooks 1 gust 0;person p;firm f p", 6, "plain f worth 5 none")), 6);
                for (int move = 0; move < 12; move++) {
                    due("no gate is guarded", x.can(move), 1);
                }
            });
        }
        String odd = withGates(withPeople("land hooks 6 gust 50", 5) + ";firm g pa;firm h pa;firm i pa", 6, "odd f worth 9 none");
        Calls wide = x -> {
            tell(x, odd);
            tell(x, odd);
            tell(x, ONE);
        };
        sentenceBehind(wide, "are the LAND from now on (nothing is left of gates and firms that were more)", x -> {
            int[] dues = {0, 0, 0, 1};
            for (int what = 0; what < dues.length; what++) {
                due("person(0, " + what + ")", x.person(0, what), dues[what]);
            }
            due("firm", x.firm(0, 2), 0);
            due("commons", x.commons(), 1);
            due("estate", x.estate(0, 0), 0);
            due("mostBy", x.mostBy(0, 20), 0);
            due("rule", x.rule(), -2);
            due("led", ledOrThrown(x, 0), 0);
            due("gust", x.gust(), 0);
            dueRatio("mean", x.mean(0, false), x.mean(0, true), 0, 1);
            dueRatio("keeps", x.keeps(0, 1, false), x.keeps(0, 1, true), 0, 1);
        });
        sentence(3, "are the LAND from now on (hooks as told again)", FOUR, x -> {
            x.take(0);
            x.turnOver(1);
            x.hang(3, true);
            tell(x, FOUR);
            dueRow("hooks", hungs(x, 4), "1220");
            due("ground", x.ground(), 1);
            due("reach", x.reach(), 27);
        });
    }

    /** A LAND without hooks, paths, wants and what is lost. */
    private static void dueOfNothing(HookGates x, int gates) {
        for (int g = 0; g < gates; g++) {
            due("paths", x.gate(g, 5), 0);
            due("hook", x.gate(g, 3), 0);
        }
        due("parts", x.parts(), gates);
        due("ground", x.ground(), 0);
        due("reach", x.reach(), 1);
        due("stills", x.stills(), 1);
        due("met", x.met(), 0);
        due("errand", x.errand(), 0);
        due("fits", x.fits(), 1);
        due("judge", x.judge(), -2);
    }

    private static void sentenceBehind(Calls ahead, String words, Calls calls) {
        sentence(3, words, x -> {
            ahead.on(x);
            calls.on(x);
        });
    }

    private static void landKept() {
        for (String text : new String[] {"", "land hooks 7", "land hooks 0 gust 0;person a;person a", BASE + ";lost a;?"}) {
            sentence(3, "4 (the LAND stays): behind '" + text + "'", FOUR, x -> {
                x.seed(9);
                x.take(0);
                x.gust();
                x.image();
                int[] sizes = {1, 50, 3, 2, 4, 2, 2, 2, 1, 1, x.size(10), 2, 1};
                String hooks = hungs(x, 4);
                refused(x, "land", tell(x, text), 4);
                for (int what = 0; what < sizes.length; what++) {
                    due("size(" + what + ")", x.size(what), sizes[what]);
                }
                dueRow("hooks", hungs(x, 4), hooks);
                due("wants", x.errand(), 2);
                due("fits", x.fits(), 3);
                due("judge", x.judge(), -2);
                due("paths", x.gate(1, 5), 5);
                due("undo", x.undo() && x.undo(), true);
                dueRow("hooks at first", hungs(x, 4), "1220");
                due("back", x.back(0), true);
            });
        }
        sentence(3, "4 (the LAND stays): there is none", x -> {
            refused(x, "land", tell(x, BASE + ";lost a;?"), 4);
            for (int what = 0; what <= 13; what++) {
                due("size(" + what + ")", x.size(what), 0);
            }
            refused(x, "ground", x.ground(), 1);
            refused(x, "gate(0, 0)", x.gate(0, 0), 1);
        });
    }

    private static void fault() {
        sentence(4, "0 without one (a new object)", x -> due("fault", x.fault(), 0));
        sentence(4, "0 without one (a sound text)", ONE, x -> due("fault", x.fault(), 0));
        sentence(4, "0 without one (a sound text behind another)", x -> {
            tell(x, "?");
            tell(x, ONE);
            due("fault", x.fault(), 0);
        });
        sentence(4, "The FAULT of the latest land()", x -> {
            tell(x, "land hooks 7");
            due("BOUNDS", x.fault(), 4);
            tell(x, "lost");
            due("LACKS", x.fault(), 6);
        });
        for (int n : new int[] {-1, 1}) {
            sentence(4, "not refused by 2", x -> {
                tell(x, "lost");
                refused(x, "land(" + n + ")", x.land(n), 2);
                due("fault", x.fault(), 6);
            });
            sentence(4, "not refused by 2", ONE, x -> {
                refused(x, "land(" + n + ")", x.land(n), 2);
                due("fault", x.fault(), 0);
            });
        }
        sentence(4, "The FAULT of the latest land() (calls of other sorts leave it)", x -> {
            tell(x, "lost");
            x.ground();
            x.undo();
            feedBlanks(x);
            due("fault", x.fault(), 6);
        });
    }

    private static void where() {
        sentence(5, "NONE else (a new object)", x -> due("where", x.where(), NONE));
        sentence(5, "Its place (the least)", x -> {
            x.land(0);
            due("where", x.where(), 0);
        });
        sentence(5, "Its place (the greatest)", x -> {
            feedBlanksUpTo(x, 900);
            x.land(900);
            due("where", x.where(), 900);
        });
        sentence(5, "the latest call that may be refused (the others leave it)", x -> {
            tell(x, "land hooks 7");
            feedBlanks(x);
            x.fault();
            x.where();
            ledOrThrown(x, 0);
            x.size(0);
            x.size(-1);
            x.trouble();
            due("where", x.where(), 11);
        });
        sentence(5, "NONE else (refused by 2)", x -> {
            tell(x, "land hooks 7");
            x.land(1);
            due("where", x.where(), NONE);
        });
        sentence(5, "NONE else (refused by 1)", x -> {
            tell(x, "land hooks 7");
            x.ground();
            due("where", x.where(), NONE);
            due("the FAULT stays", x.fault(), 4);
        });
        sentence(5, "NONE else (not refused)", ONE, x -> {
            tell(x, "land hooks 7");
            x.ground();
            due("where", x.where(), NONE);
        });
        sentence(5, "NONE else (a sound text)", x -> {
            tell(x, "land hooks 7");
            tell(x, ONE);
            due("where", x.where(), NONE);
        });
        sentence(5, "Its place (of the latest)", x -> {
            tell(x, "land hooks 7");
            x.land(1);
            tell(x, "  lost");
            due("where", x.where(), 2);
        });
    }

    // ---- TOKENS

    private static void blanks() {
        String tight = "land hooks0gust0;person p;firm f p;gate a odd f worth 5none";
        sounds("blanks, 32, part TOKENS and mean nothing else (as few as can be)", 1, tight);
        sounds("blanks, 32, part TOKENS and mean nothing else (about every TOKEN)", 1,
            "  " + tight.replace(";", "  ;   ").replace(" ", "   ") + "   ");
        sounds("blanks, 32, part TOKENS and mean nothing else (about a comma)", 2,
            BASE.replace("p,q", "p , q"), BASE.replace("p,q", "p,  q"), BASE.replace("p,q", "p  ,q"));
        faults(3, "blanks, 32, part TOKENS (a WORD in two)", FORM, "^la nd hooks 1 gust 1", "land ^hoo ks 1 gust 1");
        faults(3, "blanks, 32, part TOKENS (a WHOLE in two)", FORM, "land hooks 1 ^0 gust 1", "land hooks 1 gust 1 ^0;");
        for (char other : new char[] {0, 9, 10, 13, 31, 33, 128, 160, 255}) {
            faults(3, "blanks, 32 (none is " + (int) other + ")", FORM, "land^" + other + "hooks 1 gust 1",
                "^" + other + BASE, BASE + "^" + other, BASE.replace(";person p", "^" + other + ";person p"));
        }
    }

    private static void words() {
        soundsBehind("WORDS of 1 to 8 small letters (the shortest)", 2, "person x", "firm x p");
        soundsBehind("WORDS of 1 to 8 small letters (the longest)", 2, "person abcdefgh", "firm abcdefgh p");
        soundsBehind("WORDS of 1 to 8 small letters (the longest, unlike in one letter)", 2,
            "person abcdefgh;person abcdefgi;person bbcdefgh", "person zzzzzzzz;person zzzzzzz;person zzzzzz");
        faultsBehind(3, "WORDS of 1 to 8 small letters (one more)", FORM, "person ^abcdefghi", "firm ^abcdefghi p",
            "firm x ^ppppppppp", "^abcdefghi", "person x ^abcdefghi", "lost ^aaaaaaaaa");
        faultsBehind(3, "WORDS of 1 to 8 small letters (many more)", FORM, "person ^" + "a".repeat(13),
            "person ^" + "z".repeat(100), "lost ^" + "p".repeat(64), "lost ^" + "q".repeat(12) + "a");
        soundsBehind("small letters (the first and the last)", 2, "person azaz;person zaza");
        for (char other : new char[] {'A', 'Z', '`', '{', '@', '[', '_', (char) 225, (char) 250}) {
            faultsBehind(3, "small letters (none is " + (int) other + ")", FORM, "person ^" + other,
                "person x^" + other, "lost ^" + other);
        }
        faults(3, "small letters (as large ones they are no WORD)", FORM, "^Land hooks 1 gust 1", "land ^Hooks 1 gust 1",
            "^lAnd hooks 1 gust 1");
        faultsBehind(3, "small letters that stand together", FORM, "^personx", "^gat e c odd f worth 1 none");
    }

    private static void wholes() {
        sounds("WHOLES of 1 to 3 digits (one, two, three)", 1, ONE.replace("hooks 0", "hooks 6"),
            ONE.replace("hooks 0", "hooks 06"), ONE.replace("hooks 0", "hooks 006"), ONE.replace("gust 0", "gust 000"));
        soundWith("WHOLES of 1 to 3 digits (ahead of them 0)", ONE.replace("hooks 0", "hooks 006"), 0, 6);
        soundWith("WHOLES of 1 to 3 digits (three)", ONE.replace("gust 0", "gust 100"), 1, 100);
        faults(3, "WHOLES of 1 to 3 digits (four)", FORM, "land hooks ^0006 gust 0", "land hooks ^1000 gust 0",
            "land hooks 0 gust ^0000");
        faults(3, "WHOLES of 1 to 3 digits (many)", FORM, "land hooks ^4294967296 gust 0",
            "land hooks ^" + "0".repeat(50) + " gust 0", "land hooks ^18446744073709551616 gust 0");
        for (char other : new char[] {'/', ':', (char) 176, (char) 185, '.', '+'}) {
            faults(3, "digits (none is " + (int) other + ")", FORM, "land hooks ^" + other + " gust 0",
                "land hooks 0^" + other + " gust 0");
        }
        for (int digit = 0; digit <= 9; digit++) {
            soundWith("digits", ONE.replace("gust 0", "gust " + digit), 1, digit);
            soundWith("digits", ONE.replace("gust 0", "gust " + digit + "7"), 1, 10 * digit + 7);
        }
        soundsBehind("TOKENS that touch (a WHOLE, then a WORD)", 3, "gate c odd f worth 9none", "gate c odd f worth9none");
        faultsBehind(3, "digits that stand together (letters part them)", FORM, "gate c odd f worth 9^a9 none");
        faultsBehind(3, "a NAME is no WHOLE", FORM, "person ^1", "person x^1", "lost ^0", "wants p ^5");
    }

    private static void singleOnes() {
        faultsBehind(3, "single ones of ;, (two)", FORM, "^;person x", "firm x p,^,q", "person x;^;", "firm x p,^;");
        faults(3, "single ones of ;, (ahead)", FORM, "^;" + BASE, "^," + BASE);
        faults(3, "single ones of ;, (at the end)", FORM, BASE + ";^", BASE + "^,", BASE + ";^;", BASE + "  ;  ^");
        for (char other : new char[] {':', '<', '+', '-', '.', '/', (char) 172, (char) 187}) {
            faultsBehind(3, "single ones of ;, (none is " + (int) other + ")", FORM, "person x^" + other + "person y",
                "firm x p^" + other + "q");
        }
    }

    // ---- LINES

    private static void lines() {
        faults(3, "LINE {; LINE} (none)", FORM, "^", " ^", "     ^");
        faults(3, "LINE {; LINE} (one)", LACKS, "land hooks 0 gust 0^");
        faults(3, "LINE {; LINE} (without ;)", FORM, BASE + " ^person x", BASE + " ^land", "land hooks 0 gust 0 ^person p");
        faults(3, "LINE, one of", FORM, BASE + ";^hooks", BASE + ";^p", BASE + ";^worth 9", BASE + ";^5", "^7", "^hooks 1");
    }

    private static void landLine() {
        soundWith("hooks WHOLE: 0 .. 6 (the least)", ONE, 0, 0);
        soundWith("hooks WHOLE: 0 .. 6 (the greatest)", ONE.replace("hooks 0", "hooks 6"), 0, 6);
        faults(3, "hooks WHOLE: 0 .. 6", BOUNDS, "land hooks ^7 gust 0", "land hooks ^999 gust 0", "land hooks ^007 gust 0");
        soundWith("gust WHOLE: 0 .. 100 (the least)", ONE, 1, 0);
        soundWith("gust WHOLE: 0 .. 100 (the greatest)", ONE.replace("gust 0", "gust 100"), 1, 100);
        faults(3, "gust WHOLE: 0 .. 100", BOUNDS, "land hooks 0 gust ^101", "land hooks 0 gust ^999");
        faults(3, "land hooks WHOLE gust WHOLE (each TOKEN must stand there)", FORM, "land^", "land ^0", "land ^gust 0",
            "land hooks^", "land hooks ^gust 0", "land hooks 0^", "land hooks 0 ^0", "land hooks 0 gust^",
            "land hooks 0 gust ^;", "land hooks 0 gust 0 ^0", "land hooks ^-1 gust 0", "land hooks 0 ^hooks 0",
            "land ^land hooks 0 gust 0", "land hooks 0 ^; gust 0", "land hooks 0 gust 0^,");
        faults(3, "ahead of all others", LACKS, "^person p;land hooks 0 gust 0");
    }

    private static void personAndFirmLines() {
        String people = "land hooks 0 gust 0;person a;person b;person c;person d;person e";
        String rest = ";firm f a;gate g odd f worth 1 none";
        soundWith("person NAME (up to 5): one", ONE, 2, 1);
        soundWith("person NAME (up to 5): five", people + rest, 2, 5);
        faults(3, "person NAME (up to 5): six", MANY, people + ";^person h" + rest);
        faultsBehind(3, "person NAME (each TOKEN must stand there)", FORM, "person^", "person ^;", "person ^,", "person x ^y");
        soundWith("firm NAME PERSON {, PERSON}: one of one", ONE, 3, 1);
        sentence(3, "firm NAME PERSON {, PERSON}: of all", people + ";firm f c,a,b,e,d;gate g odd f worth 1 none", x -> {
            due("people", x.firm(0, 1), 31);
            due("the first one is its head", x.firm(0, 0), 2);
        });
        soundWith("firm (up to 4): four", BASE + ";firm g p;firm h q;firm i q,p", 3, 4);
        faultsBehind(3, "firm (up to 4): five", MANY, "firm g p;firm h q;firm i q,p;^firm j p");
        faultsBehind(3, "firm NAME PERSON {, PERSON} (each TOKEN must stand there)", FORM, "firm^", "firm ^;", "firm g^",
            "firm g ^;", "firm g ^,p", "firm g p,^", "firm g p,^;", "firm g p ^q", "firm g p,q ^p", "firm g ^1");
        faultsBehind(3, "unlike", AGAIN, "firm g p,^p", "firm g p,q,^p", "firm g q,p,^p,p", "firm g q,p,^q");
        faults(3, "unlike (one more than there can be)", AGAIN, people + ";firm f a,b,c,d,e,^a");
        soundWith("one man may be of all firms", BASE + ";firm g p;firm h p;firm i p", 3, 4);
    }

    private static void gateLine() {
        soundWith("gate (up to 6): one", ONE, 4, 1);
        soundWith("gate (up to 6): six", BASE + FOUR_MORE_GATES, 4, 6);
        faults(3, "gate (up to 6): seven", MANY, BASE + FOUR_MORE_GATES + ";^gate h odd f worth 1 none");
        String[] kinds = {"plain", "odd", "guarded", "loose"};
        for (int kind = 0; kind < 4; kind++) {
            int due = kind;
            sentence(3, "KIND: plain, odd, guarded, or loose", ONE.replace("plain", kinds[kind]),
                x -> due("KIND", x.gate(0, 0), due));
        }
        String[] hooks = {"none", "ahead", "behind"};
        for (int hung = 0; hung < 3; hung++) {
            int due = hung;
            sentence(3, "HOOK: none, ahead, or behind", ONE.replace("none", hooks[hung]),
                x -> due("HOOK", x.gate(0, 3), due));
        }
        sentence(3, "worth WHOLE: 0 .. 99 (the least)", ONE.replace("worth 5", "worth 0"), x -> due("worth", x.gate(0, 2), 0));
        sentence(3, "worth WHOLE: 0 .. 99 (the greatest)", ONE.replace("worth 5", "worth 99"), x -> due("worth", x.gate(0, 2), 99));
        faultsBehind(3, "worth WHOLE: 0 .. 99", BOUNDS, "gate c odd f worth ^100 none", "gate c odd f worth ^999 none");
        faultsBehind(3, "gate NAME KIND FIRM worth WHOLE HOOK (each TOKEN must stand there)", FORM, "gate^", "gate ^;", "gate c^",
            "gate c ^f", "gate c ^none f worth 1 none", "gate c ^plains f worth 1 none", "gate c odd^", "gate c odd ^5",
            "gate c odd f^", "gate c odd f ^1", "gate c odd f ^worths 1 none", "gate c odd f worth^", "gate c odd f worth ^none",
            "gate c odd f worth 1^", "gate c odd f worth 1 ^2", "gate c odd f worth 1 ^beside", "gate c odd f worth 1 ^non",
            "gate c odd f worth 1 none ^ahead", "gate c odd f worth 1 none^,", "gate c odd^,f");
    }

    private static void pathLine() {
        String eight = ";path a b;path a c;path a d;path a e;path a g;path b c;path b d;path b e";
        soundWith("path (up to 8): none", ONE, 5, 0);
        soundWith("path (up to 8): eight", BASE + FOUR_MORE_GATES + eight, 5, 8);
        faults(3, "path (up to 8): nine", MANY, BASE + FOUR_MORE_GATES + eight + ";^path b g");
        faultsBehind(3, "path: unlike", AGAIN, "path a ^a", "path b ^b");
        faultsBehind(3, "path: once", AGAIN, "path a b;path a ^b");
        faultsBehind(3, "path: in whatever order", AGAIN, "path a b;path b ^a", "path b a;path a ^b");
        faultsBehind(3, "path GATE GATE (each TOKEN must stand there)", FORM, "path^", "path ^;", "path a^", "path a ^;",
            "path a ^,b", "path a b ^a", "path a ^1");
    }

    private static void wantLines() {
        soundWith("wants, alone (up to 4 of both): none", ONE, 6, 0);
        soundWith("wants (up to 4 of both): four", BASE + ";wants p a;wants p a;wants q b;wants p b", 6, 4);
        soundWith("alone (up to 4 of both): four", BASE + ";alone p a;alone p a;alone q b;alone p b", 6, 4);
        soundWith("wants, alone (up to 4 of both): two and two", BASE + ";alone p a;wants p a;alone q b;wants p b", 6, 4);
        faultsBehind(3, "wants, alone (up to 4 of both): five", MANY, "wants p a;wants p a;wants p a;wants p a;^wants p a",
            "wants p a;wants p a;wants p a;wants p a;^alone p a", "alone p a;alone p a;alone p a;alone p a;^wants p a",
            "alone p a;alone p a;alone p a;alone p a;^alone p a", "alone p a;wants p a;alone p a;wants p a;^alone p b");
        faultsBehind(3, "wants PERSON GATE, or alone PERSON GATE (each TOKEN must stand there)", FORM, "wants^", "wants ^;",
            "wants p^", "wants p ^;", "wants p ^,a", "wants p a ^b", "alone^", "alone ^;", "alone p^", "alone p ^2", "alone p a ^p");
    }

    private static void lostAndHadLines() {
        soundWith("lost (up to 4): none", ONE, 7, 0);
        soundWith("lost (up to 4): four", BASE + FOUR_MORE_GATES + ";lost g;lost a;lost e;lost b", 7, 4);
        faults(3, "lost (up to 4): five", MANY, BASE + FOUR_MORE_GATES + ";lost g;lost a;lost e;lost b;^lost c",
            BASE + FOUR_MORE_GATES + ";lost g;lost a;lost e;lost b;^lost a");
        faultsBehind(3, "lost: each once", AGAIN, "lost a;lost ^a", "lost a;lost b;lost ^a");
        faultsBehind(3, "lost GATE (each TOKEN must stand there)", FORM, "lost^", "lost ^;", "lost a ^b", "lost a^,", "lost ^3");
        soundWith("had: nobody", ONE, 8, 0);
        soundsBehind("had PERSON WHOLE: 0 .. 599", 2, "had p 0", "had p 599", "had p 000;had q 599");
        faultsBehind(3, "had PERSON WHOLE: 0 .. 599", BOUNDS, "had p ^600", "had p ^999");
        soundWith("had: each once (all five)", BASE + ";person r;person s;person t;had t 1;had p 2;had s 3;had q 4;had r 5", 8, 5);
        faultsBehind(3, "had: each once", AGAIN, "had p 5;had ^p 5", "had p 0;had ^p 0", "had q 599;had p 1;had ^q 5",
            "person r;person s;person t;had t 1;had p 2;had s 3;had q 4;had r 5;had ^t 1");
        faultsBehind(3, "had PERSON WHOLE (each TOKEN must stand there)", FORM, "had^", "had ^;", "had ^5", "had p^", "had p ^;",
            "had p ^q", "had p 5 ^5", "had p 5^,");
    }

    private static void names() {
        String[] places = {"person ", "firm ", "firm g ", "firm g p,", "gate ", "gate c odd ", "path ", "path a ", "wants ",
            "wants p ", "alone ", "alone p ", "lost ", "had "};
        for (String word : LINE_WORDS) {
            for (String place : places) {
                faultsBehind(3, "NAMES are WORDS but " + word, FORM, place + "^" + word);
            }
            soundsBehind("NAMES are WORDS but " + word + " (one letter more, or fewer)", 2, "person " + word + "s",
                "person " + word.substring(1), "person x" + word.substring(1), "person " + word.substring(0, word.length() - 1));
        }
        for (String word : "hooks gust plain odd guarded loose worth none ahead behind".split(" ")) {
            sounds("NAMES are WORDS but those", 1, "land hooks 0 gust 0;person " + word + ";firm f " + word + ";gate g odd f worth 1 none",
                "land hooks 0 gust 0;person p;firm " + word + " p;gate g odd " + word + " worth 1 none",
                "land hooks 0 gust 0;person p;firm f p;gate " + word + " odd f worth 1 none;lost " + word + ";alone p " + word);
        }
        faultsBehind(3, "each told once, ahead of its use", UNTOLD, "wants ^x a;person x", "firm g ^x;person x",
            "gate c odd ^g worth 1 none;firm g p", "path a ^c;gate c odd f worth 1 none", "had ^x 5;person x");
        soundsBehind("ahead of its use (at once ahead)", 3, "person x;firm g x;gate c odd g worth 1 none;path c a;wants x c;lost c;had x 5");
    }

    // ---- FAULTS

    private static void orderOfFaults() {
        faultsBehind(4, "the first that is met from the left", AGAIN, "person ^p;?", "lost a;lost ^a;lost z;land");
        faultsBehind(4, "the first that is met from the left", UNTOLD, "lost ^z;land;?", "wants ^z a;wants p a ?");
        faultsBehind(4, "the first that is met from the left", BOUNDS, "had p ^600 5", "gate c odd f worth ^100 beside");
        faultsBehind(4, "the first that is met from the left", FORM, "lost a ^b;land", "^?;lost z");
        faultsBehind(4, "the first that is met from the left", MANY, "wants p a;wants p a;wants p a;wants p a;^wants ? land");
        faultsBehind(4, "the first that is met from the left", AGAIN, "^land ?;lost z");
        faults(4, "the first that is met from the left", LACKS, "^person ?;land hooks 7 gust 0", "^gate land");
        faults(4, "the first that is met from the left", BOUNDS, "land hooks ^7 gust 101", "land hooks 1 gust ^101;?");
        faults(4, "of one place the least number (the end: FORM, not LACKS)", FORM, "^", "land hooks 0 gust 0;^",
            "land hooks 0 gust 0;person p;firm f^", "land hooks 0 gust^");
        faultsBehind(4, "of one place the least number (of another sort, not told again)", UNTOLD, "firm g ^g", "firm g p,^g",
            "path a ^p", "path a ^f");
    }

    private static void formFaults() {
        faultsBehind(4, "the first byte that begins no TOKEN", FORM, "^?", "person x;^*", "person ^9999", "person^?", "lost a^.;lost a",
            "wants p a ^" + (char) 0, "firm g p^" + (char) 255 + "q");
        faultsBehind(4, "TOKEN with which no LAND goes on", FORM, "person x ^5", "path a ^5", "had p ^a", "lost a ^lost b");
        faults(4, "the end: its place", FORM, "land hooks 0 gust^", "land hooks 0 gust ^", "land hooks 0 gust      ^", BASE + ";^", BASE + "; ^");
    }

    private static void nameFaults() {
        faultsBehind(4, "2 a NAME that isn't told; at it", UNTOLD, "firm g ^z", "firm g p,^z", "gate c odd ^z worth 1 none", "path ^z a",
            "path a ^z", "wants ^z a", "wants p ^z", "alone ^z a", "alone p ^z", "lost ^z", "had ^z 5", "lost ^none", "lost ^worth");
        faultsBehind(4, "2 of another sort than must stand there (no PERSON); at it", UNTOLD, "firm g ^f", "firm g ^a", "firm g p,^a",
            "firm g p,^f", "firm g ^g", "wants ^a a", "wants ^f a", "alone ^a a", "alone ^f a", "had ^a 5", "had ^f 5");
        faultsBehind(4, "2 of another sort than must stand there (no FIRM); at it", UNTOLD, "gate c odd ^p worth 1 none",
            "gate c odd ^a worth 1 none", "gate c odd ^c worth 1 none");
        faultsBehind(4, "2 of another sort than must stand there (no GATE); at it", UNTOLD, "path ^p a", "path ^f a", "path a ^q", "path a ^f",
            "wants p ^q", "wants p ^f", "alone p ^p", "alone p ^f", "lost ^p", "lost ^f");
        faultsBehind(4, "2 a NAME that isn't told (nearly alike)", UNTOLD, "person abcdefgh;had ^abcdefgi 5", "person ab;had ^ba 5",
            "person aa;had ^aaa 5", "person abcdefgh;had ^abcdefg 5");
    }

    private static void againFaults() {
        faultsBehind(4, "3 a NAME told again; at it", AGAIN, "person ^p", "person ^q", "person ^f", "person ^a", "firm ^p p", "firm ^f p",
            "firm ^b p", "gate ^p odd f worth 1 none", "gate ^f odd f worth 1 none", "gate ^a odd f worth 1 none", "person x;person ^x",
            "firm ^f", "gate ^b");
        faultsBehind(4, "3 a PERSON of that firm already; at it", AGAIN, "firm g p,^p", "firm g p,q,^q");
        faultsBehind(4, "3 a second GATE that is the first; at it", AGAIN, "path a ^a", "path b ^b");
        faultsBehind(4, "3 or to which there is a path already; at it", AGAIN, "path a b;path a ^b", "path a b;path b ^a");
        faultsBehind(4, "3 a GATE lost already; at it", AGAIN, "lost b;lost ^b");
        faultsBehind(4, "3 a PERSON who had something already; at it", AGAIN, "had q 0;had ^q 0", "had q 5;had ^q", "had q 5;had ^q 600");
        faultsBehind(4, "3 a second land: at that WORD", AGAIN, "^land hooks 1 gust 5", "^land", "person x;^land hooks 7", "^land ?");
        faults(4, "3 a second land: at that WORD", AGAIN, "land hooks 0 gust 0;^land hooks 0 gust 0");
        soundsBehind("a like PERSON in another firm, at another path, in another LINE", 2, "firm g p;firm h p", "path a b;lost a;lost b",
            "wants p a;wants p a;alone p a;had p 5");
    }

    private static void boundsFaults() {
        faults(4, "4 a WHOLE out of bounds; at it", BOUNDS, "land hooks ^7", "land hooks 0 gust ^101", "land hooks ^999 ?");
        faultsBehind(4, "4 a WHOLE out of bounds; at it", BOUNDS, "gate c odd f worth ^100", "had p ^600", "had p   ^600  ");
    }

    private static void manyFaults() {
        faultsBehind(4, "5 MANY: at its first WORD", MANY, "person r;person s;person t; ^person", "person r;person s;person t;^person p",
            "firm g p;firm h p;firm i p;^firm", "firm g p;firm h p;firm i p;^firm g g", "alone q b;alone q b;alone q b;alone q b;^alone ?");
        faults(4, "5 MANY: at its first WORD", MANY, BASE + FOUR_MORE_GATES + ";^gate", BASE + FOUR_MORE_GATES + ";  ^gate a",
            BASE + FOUR_MORE_GATES + ";lost a;lost b;lost c;lost d;^lost",
            BASE + FOUR_MORE_GATES + ";path a b;path a c;path a d;path a e;path a g;path b c;path b d;path b e;^path a a");
    }

    private static void lacksFaults() {
        for (String word : LINE_WORDS) {
            if (!word.equals("land")) {
                faults(4, "6 LACKS: any LINE ahead of the land; at its WORD", LACKS, "^" + word, "  ^" + word + " x",
                    "^" + word + ";land hooks 0 gust 0");
            }
        }
        faults(4, "6 LACKS: at the end: no gate", LACKS, "land hooks 0 gust 0^", "land hooks 0 gust 0   ^",
            "land hooks 0 gust 0;person p^", "land hooks 0 gust 0;person p;firm f p^", "land hooks 0 gust 0;person p;had p 5  ^");
    }
}
