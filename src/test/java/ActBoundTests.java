/** Promises 46 to 56 and what definitions III and IV say of them: each sentence that names a boundary case, by a test of its own. */
public final class ActBoundTests extends Checks {
    private static final int[] NO_GATES_OF_SIX = {Integer.MIN_VALUE, -1, 6, 7, Integer.MAX_VALUE};
    private static final String HUNG = ONE.replace("none", "ahead");
    private static final String LYING = ONE.replace("hooks 0", "hooks 1");

    public static void main(String[] args) {
        hang();
        take();
        turnOver();
        gust();
        years();
        gustDraws();
        seed();
        undo();
        undoFull();
        undoWhat();
        image();
        back();
        led();
        sizeNumbers();
        sizes();
        troubleZero();
        troubleKept();
        troubleNumbers();
        finish(46, 56);
    }

    private static String rich(int hooks, int gust, String hook) {
        return withGates(withPeople("land hooks " + hooks + " gust " + gust, 1), 6, "plain f worth 99 " + hook);
    }

    /** A refused call is no ACT and leaves everything but TROUBLE. */
    private static void dueUntouched(HookGates x, int gates, String hooks, int ground) {
        dueRow("hooks", hungs(x, gates), hooks);
        due("ground", x.ground(), ground);
        due("ACTS", x.size(11), 0);
        due("SEED", x.size(10), 0);
        due("year", x.size(9), 0);
    }

    // ---- acts

    private static void hang() {
        for (boolean behind : new boolean[] {false, true}) {
            sentence(46, "false: 1 (no LAND)", x -> denied(x, "hang", x.hang(0, behind), 1));
            for (int g : NO_GATES_OF_SIX) {
                sentence(46, "false: 1 (a gate that there isn't: " + g + ")", rich(6, 0, "none"), x -> {
                    denied(x, "hang", x.hang(g, behind), 1);
                    dueUntouched(x, 6, "000000", 6);
                });
            }
            sentence(46, "5 (one hangs there)", rich(6, 0, "ahead"), x -> {
                denied(x, "at the first", x.hang(0, behind), 5);
                denied(x, "at the last", x.hang(5, behind), 5);
                dueUntouched(x, 6, "111111", 6);
            });
            sentence(46, "5 (one hangs there), 6 (none on the ground): 5 is told first", HUNG,
                x -> denied(x, "hang", x.hang(0, behind), 5));
            sentence(46, "5 (one hangs there), 6 (guarded): 5 is told first", HUNG.replace("plain", "guarded"),
                x -> denied(x, "hang", x.hang(0, behind), 5));
            sentence(46, "6 (none on the ground)", ONE, x -> {
                denied(x, "hang", x.hang(0, behind), 6);
                dueUntouched(x, 1, "0", 0);
            });
            sentence(46, "6 (guarded)", ONE.replace("plain", "guarded").replace("hooks 0", "hooks 6"), x -> {
                denied(x, "hang", x.hang(0, behind), 6);
                dueUntouched(x, 1, "0", 6);
            });
            sentence(46, "HANG: true: the last hook on the ground", LYING, x -> {
                granted(x, "hang", x.hang(0, behind));
                due("how it hangs", x.gate(0, 3), behind ? 2 : 1);
                due("ground", x.ground(), 0);
                due("ACTS", x.size(11), 1);
            });
            sentence(46, "HANG: true: at the first and the last gate", rich(2, 0, "none"), x -> {
                granted(x, "hang", x.hang(0, behind));
                granted(x, "hang", x.hang(5, behind));
                dueRow("hooks", hungs(x, 6), behind ? "200002" : "100001");
                denied(x, "a third", x.hang(1, behind), 6);
            });
        }
        sentence(46, "6 (none on the ground): all have been hung", LYING + ";gate b odd f worth 1 none", x -> {
            granted(x, "hang", x.hang(1, true));
            denied(x, "hang", x.hang(0, true), 6);
            x.take(1);
            granted(x, "hang", x.hang(0, true));
        });
    }

    private static void take() {
        sentence(47, "false: 1 (no LAND)", x -> denied(x, "take", x.take(0), 1));
        for (int g : NO_GATES_OF_SIX) {
            sentence(47, "false: 1 (a gate that there isn't: " + g + ")", rich(0, 0, "ahead"), x -> {
                denied(x, "take", x.take(g), 1);
                dueUntouched(x, 6, "111111", 0);
            });
        }
        sentence(47, "5 (none hangs)", LYING, x -> {
            denied(x, "take", x.take(0), 5);
            dueUntouched(x, 1, "0", 1);
        });
        sentence(47, "5 (none hangs), 6 (guarded): 5 is told first", LYING.replace("plain", "guarded"),
            x -> denied(x, "take", x.take(0), 5));
        for (String hook : new String[] {"ahead", "behind"}) {
            sentence(47, "6 (guarded)", ONE.replace("plain", "guarded").replace("none", hook), x -> {
                denied(x, "take", x.take(0), 6);
                dueUntouched(x, 1, hook.equals("ahead") ? "1" : "2", 0);
            });
            sentence(47, "TAKE: true: the first and the last gate", rich(0, 0, hook), x -> {
                granted(x, "take", x.take(0));
                granted(x, "take", x.take(5));
                due("ground", x.ground(), 2);
                due("ACTS", x.size(11), 2);
                dueRow("hooks", hungs(x, 6), hook.equals("ahead") ? "011110" : "022220");
                denied(x, "again", x.take(0), 5);
            });
        }
    }

    private static void turnOver() {
        sentence(48, "NONE: 1 (no LAND)", x -> refused(x, "turnOver", x.turnOver(0), 1));
        for (int g : NO_GATES_OF_SIX) {
            sentence(48, "NONE: 1 (a gate that there isn't: " + g + ")", rich(0, 0, "ahead"), x -> {
                refused(x, "turnOver", x.turnOver(g), 1);
                dueUntouched(x, 6, "111111", 0);
            });
        }
        sentence(48, "5 (none hangs)", LYING, x -> {
            refused(x, "turnOver", x.turnOver(0), 5);
            dueUntouched(x, 1, "0", 1);
        });
        sentence(48, "5 (none hangs), 6 (guarded): 5 is told first", LYING.replace("plain", "guarded"),
            x -> refused(x, "turnOver", x.turnOver(0), 5));
        sentence(48, "6 (guarded)", HUNG.replace("plain", "guarded"), x -> {
            refused(x, "turnOver", x.turnOver(0), 6);
            dueUntouched(x, 1, "1", 0);
        });
        sentence(48, "TURN: how it hangs then: round and round", rich(0, 0, "behind"), x -> {
            for (int i = 0; i < 20; i++) {
                granted(x, "the first", x.turnOver(0), 1 + i % 2);
                granted(x, "the last", x.turnOver(5), 1 + i % 2);
            }
            dueRow("hooks", hungs(x, 6), "222222");
            due("ACTS", x.size(11), 16);
        });
    }

    private static void gust() {
        sentence(49, "NONE: 1 (no LAND)", x -> refused(x, "gust", x.gust(), 1));
        sentence(49, "how many fall: none, as none hangs", rich(6, 100, "none"), x -> {
            granted(x, "gust", x.gust(), 0);
            due("SEED, as no DRAW was taken", x.size(10), 0);
            due("year", x.size(9), 1);
            due("an ACT all the same", x.size(11), 1);
        });
        sentence(49, "how many fall: none, as none can", rich(0, 0, "ahead"), x -> {
            granted(x, "gust", x.gust(), 0);
            due("SEED, as six DRAWS were taken", x.size(10), draws(0, 6));
        });
        sentence(49, "how many fall: all six", rich(0, 100, "behind"), x -> {
            granted(x, "gust", x.gust(), 6);
            dueRow("hooks", hungs(x, 6), "000000");
            due("ground", x.ground(), 6);
            granted(x, "gust", x.gust(), 0);
        });
        sentence(49, "but at guarded gates", rich(0, 100, "ahead").replace("plain", "guarded"), x -> {
            granted(x, "gust", x.gust(), 0);
            dueRow("hooks", hungs(x, 6), "111111");
            due("SEED, as no DRAW was taken", x.size(10), 0);
        });
        sentence(49, "3 (999 years went by): as many as can be within 512 calls", ONE, x -> {
            for (int year = 0; year < 500; year++) {
                due("gust", x.gust(), 0);
            }
            due("year", x.size(9), 500);
            due("gust", x.gust(), 0);
        });
    }

    /** More calls than an object is promised for, so only that the bound stands where it is told. */
    private static void years() {
        sentence(49, "NONE: 3 (999 years went by)", HUNG.replace("gust 0", "gust 1"), x -> {
            for (int year = 0; year < 998; year++) {
                x.gust();
            }
            granted(x, "the 999th", x.gust(), 0);
            due("year", x.size(9), 999);
            int seed = x.size(10);
            refused(x, "the thousandth", x.gust(), 3);
            refused(x, "the thousandth", x.gust(), 3);
            due("year", x.size(9), 999);
            due("SEED", x.size(10), seed);
            due("ACTS", x.size(11), 16);
            granted(x, "undo", x.undo());
            granted(x, "the 999th again", x.gust(), 0);
            refused(x, "the thousandth", x.gust(), 3);
        });
    }

    private static void gustDraws() {
        sentence(49, "below as likely as it falls it does: 36 is not below 36", HUNG.replace("gust 0", "gust 36"), x -> {
            x.seed(65536);
            granted(x, "gust", x.gust(), 0);
            due("the greatest SEED becomes itself", x.size(10), 65536);
        });
        sentence(49, "below as likely as it falls it does: 36 is below 37", HUNG.replace("gust 0", "gust 37"), x -> {
            x.seed(65536);
            granted(x, "gust", x.gust(), 1);
            due("SEED", x.size(10), 65536);
        });
        sentence(49, "below as likely as it falls it does: 0 is not below 0", HUNG, x -> {
            x.seed(45438);
            granted(x, "gust", x.gust(), 0);
            due("SEED comes round to 0", x.size(10), 0);
        });
        sentence(49, "below as likely as it falls it does: 0 is below 1", HUNG.replace("gust 0", "gust 1"), x -> {
            x.seed(45438);
            granted(x, "gust", x.gust(), 1);
        });
        sentence(49, "below as likely as it falls it does: 99 is not below 99", HUNG.replace("gust 0", "gust 99"), x -> {
            x.seed(3);
            granted(x, "gust", x.gust(), 0);
            due("SEED", x.size(10), 299);
        });
        sentence(49, "below as likely as it falls it does: 99 is below 100", HUNG.replace("gust 0", "gust 100"), x -> {
            x.seed(3);
            granted(x, "gust", x.gust(), 1);
        });
        sentence(49, "SEED becomes (75 times SEED and 74) mod 65,537: round and round", HUNG, x -> {
            for (int year = 1; year <= 60; year++) {
                x.gust();
                due("SEED of year " + year, x.size(10), draws(0, year));
            }
        });
        sentence(49, "for each gate that isn't guarded, at which one hangs, by numbers",
            "land hooks 0 gust 25;person p;firm f p;gate a plain f worth 1 ahead;gate b plain f worth 2 ahead;"
                + "gate c guarded f worth 4 ahead;gate d loose f worth 8 ahead", x -> {
                    // 74, 24, 52 of three; 90, 41 of two; 9 of one
                    granted(x, "b falls", x.gust(), 1);
                    dueRow("hooks", hungs(x, 4), "1011");
                    due("SEED", x.size(10), draws(0, 3));
                    granted(x, "d falls", x.gust(), 1);
                    dueRow("hooks", hungs(x, 4), "1010");
                    due("SEED", x.size(10), draws(0, 5));
                    granted(x, "a falls", x.gust(), 1);
                    dueRow("hooks", hungs(x, 4), "0010");
                    due("SEED", x.size(10), draws(0, 6));
                    granted(x, "none is left", x.gust(), 0);
                    due("SEED", x.size(10), draws(0, 6));
                    due("ground", x.ground(), 3);
                });
    }

    private static void seed() {
        sentence(50, "false: 1 (no LAND)", x -> denied(x, "seed(0)", x.seed(0), 1));
        for (int v : new int[] {Integer.MIN_VALUE, -1, 65537, Integer.MAX_VALUE}) {
            sentence(50, "1 (no LAND); 2 (1 is told first)", x -> denied(x, "seed(" + v + ")", x.seed(v), 1));
            sentence(50, "2 (0 .. 65,536): " + v, ONE, x -> {
                x.seed(9);
                denied(x, "seed(" + v + ")", x.seed(v), 2);
                due("SEED", x.size(10), 9);
            });
        }
        for (int v : new int[] {0, 1, 65535, 65536}) {
            sentence(50, "(0 .. 65,536): " + v, ONE, x -> {
                x.seed(9);
                granted(x, "seed(" + v + ")", x.seed(v));
                due("SEED", x.size(10), v);
            });
        }
        sentence(50, "no ACT", ONE, x -> {
            x.seed(9);
            due("ACTS", x.size(11), 0);
            denied(x, "undo", x.undo(), 6);
            due("SEED", x.size(10), 9);
        });
    }

    // ---- what is undone, and gone back to

    private static void undo() {
        sentence(51, "false: 6 (no LAND)", x -> denied(x, "undo", x.undo(), 6));
        sentence(51, "false: 6 (no ACT)", ONE, x -> denied(x, "undo", x.undo(), 6));
        sentence(51, "false: 6 (an ACT undone)", LYING, x -> {
            x.hang(0, true);
            granted(x, "undo", x.undo());
            denied(x, "undo", x.undo(), 6);
        });
        sentence(51, "ACTS: HANG, TAKE, TURN, GUST (refused ones are none)", ONE.replace("plain", "guarded"), x -> {
            x.hang(0, true);
            x.take(0);
            x.turnOver(0);
            x.hang(1, true);
            x.take(-1);
            due("ACTS", x.size(11), 0);
            denied(x, "undo", x.undo(), 6);
        });
        sentence(51, "ACTS: HANG, TAKE, TURN, GUST (each by itself)", LYING.replace("gust 0", "gust 100"), x -> {
            x.hang(0, false);
            x.turnOver(0);
            x.take(0);
            x.hang(0, true);
            x.gust();
            due("ACTS", x.size(11), 5);
            due("nothing hangs", x.gate(0, 3), 0);
            granted(x, "GUST undone", x.undo());
            due("behind", x.gate(0, 3), 2);
            granted(x, "HANG undone", x.undo());
            due("none", x.gate(0, 3), 0);
            granted(x, "TAKE undone", x.undo());
            due("behind", x.gate(0, 3), 2);
            granted(x, "TURN undone", x.undo());
            due("ahead", x.gate(0, 3), 1);
            granted(x, "HANG undone", x.undo());
            due("none", x.gate(0, 3), 0);
            due("ground", x.ground(), 1);
            denied(x, "undo", x.undo(), 6);
        });
    }

    private static void undoFull() {
        for (int acts : new int[] {1, 15, 16, 17, 31, 32, 33, 100}) {
            int kept = Math.min(16, acts);
            sentence(51, "16 are kept: of " + acts + " ACTS", HUNG, x -> {
                for (int act = 1; act <= acts; act++) {
                    x.gust();
                    due("ACTS", x.size(11), Math.min(16, act));
                }
                for (int left = kept - 1; left >= 0; left--) {
                    granted(x, "undo", x.undo());
                    due("ACTS", x.size(11), left);
                    due("year", x.size(9), acts - kept + left);
                    due("SEED", x.size(10), draws(0, acts - kept + left));
                }
                denied(x, "undo", x.undo(), 6);
                due("year", x.size(9), acts - kept);
            });
        }
        for (int acts : new int[] {15, 16, 17, 18, 33, 100}) {
            sentence(51, "16 are kept: hooks, of " + acts + " ACTS", LYING + ";gate b plain f worth 1 none", x -> {
                for (int act = 0; act < acts; act++) {
                    threeActs(x, act);
                }
                for (int left = acts - 1; left >= Math.max(0, acts - 16); left--) {
                    due("undo", x.undo(), true);
                    due("hook of " + left, x.gate(0, 3), left % 3);
                }
                denied(x, "undo", x.undo(), 6);
            });
        }
        sentence(51, "16 are kept: room again behind an UNDO", HUNG, x -> {
            for (int act = 0; act < 16; act++) {
                x.turnOver(0);
            }
            for (int i = 0; i < 20; i++) {
                granted(x, "undo", x.undo());
                due("ACTS", x.size(11), 15);
                granted(x, "turn", x.turnOver(0), 1);
                due("ACTS", x.size(11), 16);
            }
        });
    }

    /** Hung ahead, turned, taken, and round again. */
    private static void threeActs(HookGates x, int act) {
        if (act % 3 == 0) {
            x.hang(0, false);
        } else if (act % 3 == 1) {
            x.turnOver(0);
        } else {
            x.take(0);
        }
    }

    private static void undoWhat() {
        sentence(51, "all, SEED too, is as ahead of the latest: a SEED told behind it is gone", HUNG, x -> {
            x.seed(5);
            x.turnOver(0);
            x.seed(7);
            granted(x, "undo", x.undo());
            due("SEED", x.size(10), 5);
            due("hook", x.gate(0, 3), 1);
        });
        sentence(51, "all is as ahead of the latest: hooks, ground, year", rich(3, 100, "behind"), x -> {
            x.gust();
            due("ground", x.ground(), 9);
            granted(x, "undo", x.undo());
            dueRow("hooks", hungs(x, 6), "222222");
            due("ground", x.ground(), 3);
            due("year", x.size(9), 0);
            due("SEED", x.size(10), 0);
        });
        sentence(51, "UNDO (IMAGES stay)", HUNG, x -> {
            x.turnOver(0);
            x.image();
            granted(x, "undo", x.undo());
            due("IMAGES", x.size(12), 1);
            granted(x, "back", x.back(0));
            due("hook", x.gate(0, 3), 2);
        });
        sentence(51, "UNDO (THE TAPE stays)", HUNG, x -> {
            x.turnOver(0);
            feedBlanks(x);
            granted(x, "undo", x.undo());
            due("bytes", x.size(13), 20);
        });
    }

    private static void image() {
        sentence(52, "NONE: 1 (no LAND)", x -> refused(x, "image", x.image(), 1));
        sentence(52, "up to 3: its number", ONE, x -> {
            for (int number = 0; number < 3; number++) {
                granted(x, "image", x.image(), number);
                due("IMAGES", x.size(12), number + 1);
            }
        });
        sentence(52, "NONE: 3", ONE, x -> {
            x.image();
            x.image();
            x.image();
            for (int i = 0; i < 20; i++) {
                refused(x, "a fourth", x.image(), 3);
            }
            due("IMAGES", x.size(12), 3);
        });
        sentence(52, "NONE: 3 (those that there are stay)", LYING, x -> {
            x.image();
            x.hang(0, false);
            x.image();
            x.turnOver(0);
            x.image();
            x.take(0);
            x.gust();
            refused(x, "a fourth", x.image(), 3);
            for (int number = 0; number < 3; number++) {
                granted(x, "back", x.back(number));
                due("hook", x.gate(0, 3), number);
                due("year", x.size(9), 0);
            }
        });
        sentence(52, "An IMAGE (no ACT)", ONE, x -> {
            x.image();
            due("ACTS", x.size(11), 0);
            denied(x, "undo", x.undo(), 6);
        });
        sentence(52, "room again in a LAND told anew", ONE, x -> {
            x.image();
            x.image();
            x.image();
            tell(x, ONE);
            granted(x, "image", x.image(), 0);
        });
    }

    private static void back() {
        for (int image : new int[] {Integer.MIN_VALUE, -1, 0, 1, 2, 3, Integer.MAX_VALUE}) {
            sentence(53, "false: 1 (no LAND): " + image, x -> denied(x, "back", x.back(image), 1));
            sentence(53, "false: 1 (no IMAGE): " + image, ONE, x -> denied(x, "back", x.back(image), 1));
        }
        for (int image : new int[] {Integer.MIN_VALUE, -1, 3, 4, 16, Integer.MAX_VALUE}) {
            sentence(53, "false: 1 (of three): " + image, HUNG, x -> {
                x.image();
                x.image();
                x.image();
                x.turnOver(0);
                denied(x, "back", x.back(image), 1);
                due("hook", x.gate(0, 3), 2);
                due("ACTS", x.size(11), 1);
            });
        }
        for (int image = 1; image <= 2; image++) {
            int beyond = image;
            sentence(53, "false: 1 (of " + image + ")", HUNG, x -> {
                for (int i = 0; i < beyond; i++) {
                    x.image();
                }
                denied(x, "back", x.back(beyond), 1);
                granted(x, "back to the last", x.back(beyond - 1));
            });
        }
        sentence(53, "All is as by an IMAGE", rich(3, 50, "ahead"), x -> {
            x.seed(1234);
            x.gust();
            String hooks = hungs(x, 6);
            int ground = x.ground();
            int seed = x.size(10);
            x.image();
            x.seed(0);
            x.gust();
            x.gust();
            x.hang(0, true);
            for (int i = 0; i < 2; i++) {
                granted(x, "back", x.back(0));
                dueRow("hooks", hungs(x, 6), hooks);
                due("ground", x.ground(), ground);
                due("SEED", x.size(10), seed);
                due("year", x.size(9), 1);
                x.gust();
            }
        });
        sentence(53, "(all IMAGES stay)", HUNG, x -> {
            x.image();
            x.turnOver(0);
            x.image();
            x.take(0);
            x.image();
            granted(x, "back to the first", x.back(0));
            due("IMAGES", x.size(12), 3);
            granted(x, "back to the last", x.back(2));
            due("hook", x.gate(0, 3), 0);
            granted(x, "back to the second", x.back(1));
            due("hook", x.gate(0, 3), 2);
            refused(x, "a fourth", x.image(), 3);
        });
        sentence(53, "gone back to one, nothing can be undone", HUNG, x -> {
            x.image();
            for (int i = 0; i < 17; i++) {
                x.turnOver(0);
            }
            granted(x, "back", x.back(0));
            due("ACTS", x.size(11), 0);
            denied(x, "undo", x.undo(), 6);
            x.take(0);
            granted(x, "undo what came behind it", x.undo());
            due("hook", x.gate(0, 3), 1);
            denied(x, "undo", x.undo(), 6);
        });
    }

    // ---- what is told

    private static void led() {
        for (int i : new int[] {Integer.MIN_VALUE, -1, 0, 1, Integer.MAX_VALUE}) {
            sentence(54, "NoSuchElementException if there is none such: no LAND: " + i, x -> due("led", ledOrThrown(x, i), THROWN));
            sentence(54, "NoSuchElementException if there is none such: all have something: " + i, HUNG,
                x -> due("led", ledOrThrown(x, i), THROWN));
        }
        String five = withPeople("land hooks 0 gust 0", 5) + ";gate a plain f worth 9 none";
        for (int i : new int[] {Integer.MIN_VALUE, -1, 5, 6, Integer.MAX_VALUE}) {
            sentence(54, "NoSuchElementException if there is none such: " + i + " of five", five,
                x -> due("led", ledOrThrown(x, i), THROWN));
        }
        sentence(54, "The i-th person, by numbers, who HAS nothing: all five", five, x -> {
            for (int i = 0; i < 5; i++) {
                due("led", ledOrThrown(x, i), i);
            }
        });
        sentence(54, "who HAS nothing: 4 by 5 is nothing", five.replace("worth 9 none", "worth 4 behind"),
            x -> due("led(4)", ledOrThrown(x, 4), 4));
        sentence(54, "who HAS nothing: 5 by 5 is something", five.replace("worth 9 none", "worth 5 behind"),
            x -> due("led(0)", ledOrThrown(x, 0), THROWN));
        sentence(54, "The i-th person, by numbers: those between who have something are left out",
            "land hooks 0 gust 0;person p;person q;person r;person s;person t;firm f q;firm g s;gate a odd f worth 1 none;gate b odd g worth 1 none", x -> {
                due("led(0)", ledOrThrown(x, 0), 0);
                due("led(1)", ledOrThrown(x, 1), 2);
                due("led(2)", ledOrThrown(x, 2), 4);
                due("led(3)", ledOrThrown(x, 3), THROWN);
            });
        sentence(54, "who HAS nothing: NOW", HUNG, x -> {
            due("led(0)", ledOrThrown(x, 0), THROWN);
            x.take(0);
            due("led(0)", ledOrThrown(x, 0), 0);
            x.undo();
            due("led(0)", ledOrThrown(x, 0), THROWN);
        });
    }

    private static void sizeNumbers() {
        for (int what : new int[] {Integer.MIN_VALUE, -1, 14, 15, Integer.MAX_VALUE}) {
            sentence(55, "NONE for others: " + what, x -> due("size, no LAND", x.size(what), NONE));
            sentence(55, "NONE for others: " + what, ONE, x -> due("size", x.size(what), NONE));
        }
        for (int what = 0; what <= 13; what++) {
            int which = what;
            sentence(55, "0 for what there isn't: " + what, x -> due("size, no LAND", x.size(which), 0));
        }
        sentence(55, "0 for what there isn't: nothing lost, wanted, had, done", ONE, x -> {
            int[] sizes = {0, 0, 1, 1, 1, 0, 0, 0, 0, 0, 0, 0, 0, 0};
            for (int what = 0; what <= 13; what++) {
                due("size(" + what + ")", x.size(what), sizes[what]);
            }
        });
    }

    private static void sizes() {
        String most = withGates("land hooks 6 gust 100;person p;person q;person r;person s;person t;firm f p;firm g q;firm h r;firm i s,t",
            6, "plain f worth 1 ahead") + ";path ga gb;path ga gc;path ga gd;path ga ge;path ga gf;path gb gc;path gb gd;path gb ge"
            + ";wants p ga;wants p gb;alone p gc;alone p gd;lost ga;lost gb;lost gc;lost gd;had p 1;had q 2;had r 3;had s 4;had t 5";
        int[] sizes = {6, 100, 5, 4, 6, 8, 4, 4, 5};
        for (int what = 0; what < sizes.length; what++) {
            int which = what;
            sentence(55, what + ": as many as there can be", most, x -> due("size(" + which + ")", x.size(which), sizes[which]));
        }
        sentence(55, "0 hooks on the ground as told: not NOW", LYING, x -> {
            x.hang(0, true);
            due("size(0)", x.size(0), 1);
            due("ground", x.ground(), 0);
        });
        sentence(55, "9 the year NOW", ONE, x -> {
            for (int year = 0; year < 100; year++) {
                due("size(9)", x.size(9), year);
                x.gust();
            }
        });
        sentence(55, "10 SEED: the greatest", ONE, x -> {
            x.seed(65536);
            due("size(10)", x.size(10), 65536);
        });
        sentence(55, "11 ACTS that can be undone: the most", ONE, x -> {
            for (int i = 0; i < 40; i++) {
                x.gust();
            }
            due("size(11)", x.size(11), 16);
        });
        sentence(55, "12 IMAGES: the most", ONE, x -> {
            for (int i = 0; i < 5; i++) {
                x.image();
            }
            due("size(12)", x.size(12), 3);
        });
        sentence(55, "13 bytes of THE TAPE: the most", x -> {
            for (int i = 0; i < 50; i++) {
                feedBlanks(x);
            }
            due("size(13)", x.size(13), 900);
        });
    }

    /** A call that isn't refused, behind one that is. */
    private static void allows(String words, Calls calls) {
        sentence(56, "0 it wasn't: " + words, FOUR, x -> {
            x.gate(-1, 0);
            calls.on(x);
            due("trouble", x.trouble(), 0);
        });
    }

    private static void troubleZero() {
        sentence(56, "0: a new object", x -> due("trouble", x.trouble(), 0));
        allows("land", x -> tell(x, ONE));
        allows("gate", x -> x.gate(0, 0));
        allows("person", x -> x.person(0, 0));
        allows("firm", x -> x.firm(0, 0));
        allows("commons", x -> x.commons());
        allows("richest", x -> x.richest());
        allows("ground", x -> x.ground());
        allows("hasIf", x -> x.hasIf(0, 0, 0));
        allows("can", x -> x.can(0));
        allows("errand", x -> x.errand());
        allows("errandAt", x -> x.errandAt(0));
        allows("met", x -> x.met());
        allows("movesFor", x -> x.movesFor(0, 0));
        allows("movesFor, -2", x -> x.movesFor(0, 599));
        allows("mostBy", x -> x.mostBy(0, 0));
        allows("reach", x -> x.reach());
        allows("cover", x -> x.cover());
        allows("coverAt", x -> x.coverAt(0));
        allows("stills", x -> x.stills());
        allows("isStill", x -> x.isStill());
        allows("fairest", x -> x.fairest());
        allows("fairAt", x -> x.fairAt(0));
        allows("fits", x -> x.fits());
        allows("fitAt", x -> x.fitAt(0, 0));
        allows("hungBy", x -> x.hungBy(0, 0));
        allows("look", x -> x.look());
        allows("lookLeaves", x -> x.lookLeaves());
        allows("judge, -2", x -> x.judge());
        allows("apart", x -> x.apart(0, 0));
        allows("apart, -2", x -> x.apart(0, 3));
        allows("sentries", x -> x.sentries());
        allows("parts", x -> x.parts());
        allows("estate", x -> x.estate(0, 0));
        allows("power", x -> x.power(0, true));
        allows("rule", x -> x.rule());
        allows("steal", x -> x.steal(0, true, true, true));
        allows("rests", x -> x.rests(0));
        allows("rest, -2", x -> x.rest(1));
        allows("holds", x -> x.holds(0, 0, true));
        allows("mean", x -> x.mean(0, true));
        allows("keeps", x -> x.keeps(0, 0, true));
        allows("century", x -> x.century(0, 0, 0));
        allows("bare", x -> x.bare(0, 60));
        allows("bare, -2", x -> x.bare(0, 0));
        allows("hang", x -> x.hang(3, true));
        allows("take", x -> x.take(0));
        allows("turnOver", x -> x.turnOver(0));
        allows("gust", x -> x.gust());
        allows("seed", x -> x.seed(0));
        sentence(56, "0 it wasn't: undo", FOUR, x -> {
            x.take(0);
            x.gate(-1, 0);
            granted(x, "undo", x.undo());
        });
        allows("image", x -> x.image());
        sentence(56, "0 it wasn't: back", FOUR, x -> {
            x.image();
            x.gate(-1, 0);
            granted(x, "back", x.back(0));
        });
    }

    /** A call of which no number is told leaves TROUBLE, be it 0 or not. */
    private static void leaves(String words, Calls calls) {
        sentence(56, "of the latest call that may be refused: not of " + words, FOUR, x -> {
            x.hasIf(0, 0, 3);
            calls.on(x);
            due("trouble", x.trouble(), 2);
            x.ground();
            calls.on(x);
            due("trouble", x.trouble(), 0);
        });
    }

    private static void troubleKept() {
        leaves("feed", x -> feedBlanks(x));
        leaves("fault", x -> x.fault());
        leaves("where", x -> x.where());
        leaves("led", x -> ledOrThrown(x, 0));
        leaves("led, thrown", x -> ledOrThrown(x, 9));
        leaves("size", x -> x.size(0));
        leaves("size of others", x -> x.size(14));
        leaves("trouble", x -> x.trouble());
        sentence(56, "of the latest call that may be refused: not of feed, though nothing comes", x -> {
            x.undo();
            for (int i = 0; i < 46; i++) {
                feedBlanks(x);
            }
            due("trouble", x.trouble(), 6);
        });
    }

    private static void troubleNumbers() {
        sentence(56, "1 there is none such", x -> refused(x, "ground", x.ground(), 1));
        sentence(56, "2 a number", x -> refused(x, "land(1)", x.land(1), 2));
        sentence(56, "3 no room", ONE, x -> {
            x.image();
            x.image();
            x.image();
            refused(x, "image", x.image(), 3);
        });
        sentence(56, "4 a FAULT", x -> refused(x, "land(0)", x.land(0), 4));
        sentence(56, "5 not so", ONE, x -> denied(x, "take", x.take(0), 5));
        sentence(56, "6 there is none", ONE, x -> denied(x, "hang", x.hang(0, true), 6));
        sentence(56, "of the latest call: one behind the other", ONE, x -> {
            denied(x, "hang", x.hang(0, true), 6);
            denied(x, "take", x.take(0), 5);
            refused(x, "land", x.land(0), 4);
            refused(x, "land", x.land(1), 2);
            refused(x, "gate", x.gate(1, 0), 1);
            granted(x, "ground", x.ground(), 0);
        });
    }
}
