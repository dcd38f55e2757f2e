/** Promises 35 to 43: HOURS DRAWN, odds, DAYBOOKS, SENTENCES, images, counts. */
public final class BookTest {
    private static final String HOUSE = "hours 8;place w;place h;place t;way w h;way h t;frog w;frog h;"
        + "person p w;person q h;deed eat;deed bow;"
        + "promise x p eat t 2 4 1;promise y p bow h 1 3 1 each unless eat;promise z q eat h 0 7 2;";

    public static void main(String[] args) {
        drawn();
        drawnByHand();
        drawnWithoutPromises();
        odds();
        daybooks();
        daybookFaults();
        booked();
        bookedWhy();
        sentences();
        sentenceFaults();
        sentenceStays();
        images();
        counts();
        Check.done("BookTest");
    }

    private static void drawn() {
        WellPromises x = Check.with(HOUSE);
        Check.due("none", x.drawn(0, 1), -1);
        Check.due("100", x.drawn(100, 1), -1);
        Check.due("1", x.drawn(1, 1), 1);
        x.undo();
        Check.due("99", x.drawn(99, 1), 99);
        Check.due("61 left", x.drawn(99, 1), 61);
        Check.due("none left", x.drawn(99, 1), 0);
        Check.due("not as told first", x.drawn(100, 1), -1);
        Check.due("two can be undone", x.undo(), 1);
        WellPromises empty = Check.with("place w;deed d;");
        Check.due("no persons", empty.drawn(1, 1), -1);
        WellPromises bare = Check.with("place w;person p w;");
        Check.due("no deeds, no promises", bare.drawn(99, 3), 99);
        Check.due("nothing was done", bare.now(2), 0);
    }

    /** The draws written out once more, call by call. */
    private static void drawnByHand() {
        for (int seed = -40; seed < 40; seed++) {
            WellPromises x = Check.with(HOUSE);
            WellPromises y = Check.with(HOUSE);
            x.drawn(20, seed * 77777777);
            int s = seed * 77777777;
            for (int hour = 0; hour < 20; hour++) {
                for (int p = 0; p < 2; p++) {
                    s = s * 1103515245 + 12345;
                    int sort = (s >>> 8) % 3;
                    s = s * 1103515245 + 12345;
                    if (sort == 0) {
                        y.go(p, (s >>> 8) % 3);
                    } else if (sort == 1) {
                        y.act(p, (s >>> 8) % 2);
                    } else {
                        y.say(p, (s >>> 8) % 3);
                    }
                }
                y.hours(1);
            }
            same("drawn by " + seed, x, y);
        }
    }

    private static void same(String name, WellPromises x, WellPromises y) {
        for (int what = 0; what < 6; what++) {
            Check.due(name + " now " + what, x.now(what), y.now(what));
        }
        for (int p = 0; p < 2; p++) {
            for (int what = 0; what < 4; what++) {
                Check.due(name + " person " + p, x.person(p, what), y.person(p, what));
            }
        }
        for (int p = 0; p < 3; p++) {
            Check.due(name + " said " + p, x.promise(p, 8), y.promise(p, 8));
            Check.due(name + " bound " + p, x.promise(p, 9), y.promise(p, 9));
        }
        for (int k = 0; k < x.now(2); k++) {
            for (int what = 0; what < 4; what++) {
                Check.due(name + " done " + k, x.done(k, what), y.done(k, what));
            }
        }
    }

    /** No PROMISES: no draw of them either. */
    private static void drawnWithoutPromises() {
        for (int seed = 0; seed < 40; seed++) {
            WellPromises x = Check.with("hours 8;place w;place h;way w h;person p w;deed eat;deed bow;deed sit;");
            WellPromises y = Check.with("hours 8;place w;place h;way w h;person p w;deed eat;deed bow;deed sit;");
            x.drawn(20, seed);
            int s = seed;
            for (int hour = 0; hour < 20; hour++) {
                s = s * 1103515245 + 12345;
                int sort = (s >>> 8) % 3;
                s = sort == 2 ? s : s * 1103515245 + 12345;
                if (sort == 0) {
                    y.go(0, (s >>> 8) % 2);
                } else if (sort == 1) {
                    y.act(0, (s >>> 8) % 3);
                }
                y.hours(1);
            }
            Check.due("goings by " + seed, x.person(0, 3), y.person(0, 3));
            Check.due("deeds by " + seed, x.now(2), y.now(2));
            for (int k = 0; k < x.now(2); k++) {
                Check.due("deed " + k + " by " + seed, x.done(k, 2), y.done(k, 2));
                Check.due("its hour, by " + seed, x.done(k, 0), y.done(k, 0));
            }
        }
    }

    private static void odds() {
        WellPromises x = Check.with(HOUSE);
        x.hours(3);
        x.say(0, 1);
        x.act(1, 0);
        for (int p = 0; p < 3; p++) {
            int count = 0;
            for (int k = 0; k < 30; k++) {
                int seed = Integer.MAX_VALUE - 9 + k;
                x.drawn(16, seed);
                count += x.status(p, 0) == 4 ? 1 : 0;
                x.undo();
            }
            Check.due("odds of " + p, x.odds(p, 30, Integer.MAX_VALUE - 9), count);
        }
        Check.due("all stays", x.now(2), 1);
        Check.due("time stays", x.now(1), 3);
        Check.due("the deed stays", x.done(0, 0), 3);
        Check.due("busy stays", x.person(1, 1), 1);
        Check.due("no seeds", x.odds(0, 0, 1), -1);
        Check.due("31 seeds", x.odds(0, 31, 1), -1);
        Check.due("no such promise", x.odds(3, 1, 1), -1);
        Check.due("promise below", x.odds(-1, 1, 1), -1);
        Check.due("odds are not undone", x.undo(), 2);
        WellPromises sure = Check.with("hours 4;place w;frog w;person p w;deed d;promise x p d w 0 0 3;");
        sure.say(0, 0);
        Check.due("sure to be broken", sure.odds(0, 30, 5), 30);
        Check.due("one seed", sure.odds(0, 1, 5), 1);
        sure.hours(80);
        Check.due("broken when all is over", sure.odds(0, 7, 5), 7);
    }

    private static void daybooks() {
        WellPromises x = Check.with(HOUSE);
        Check.due("empty", x.daybook(1), -1);
        String day = "p says x; p says y; p goes h; hour 1; p does bow; q says z; hour 2; p goes t; hour 1; p does eat;";
        Check.due("judged", Check.daybook(x, day, 0), -1);
        Check.due("lines", x.booked(1), 10);
        Check.due("when", x.booked(2), 4);
        Check.due("all stays", x.now(1), 0);
        Check.due("nothing said", x.now(3), 0);
        Check.due("the tape is empty", x.count(8), 0);
        Check.due("lived", Check.daybook(x, day, 1), -1);
        Check.due("time", x.now(1), 4);
        Check.due("kept", x.status(0, 0), 2);
        Check.due("deeds", x.now(2), 2);
        Check.due("wrong", Check.daybook(x, "hour 1;p goes h;p goes t;hour 5;", 1), 2);
        Check.due("lived so far", x.now(1), 5);
        Check.due("gone", x.person(0, 0), 1);
        Check.due("why", x.booked(0), 1);
        Check.due("right lines", x.booked(1), 2);
        Check.due("undone", x.undo(), 2);
        Check.due("as ahead of it", x.now(1), 4);
        Check.due("place", x.person(0, 0), 2);
        Check.tape(x, "p goes h;");
        Check.due("another lives", x.daybook(-1), -1000);
        Check.due("bytes stay", x.count(8), 9);
        Check.due("forty lines", Check.daybook(x, "hour 1;".repeat(30).concat("hour 2;".repeat(9)), 0), 0);
        Check.due("it was busy", x.booked(0), 1);
    }

    private static void daybookFaults() {
        WellPromises x = Check.with(HOUSE);
        Check.daybookFault(x, "r goes h;", 0, 3);
        Check.daybookFault(x, "w goes h;", 0, 3);
        Check.daybookFault(x, "goes h;", 0, 1);
        Check.daybookFault(x, ";", 0, 1);
        Check.daybookFault(x, "7;", 0, 1);
        Check.daybookFault(x, "p h;", 2, 1);
        Check.daybookFault(x, "p hour 1;", 2, 1);
        Check.daybookFault(x, "p goes", 6, 1);
        Check.daybookFault(x, "p goes eat;", 7, 3);
        Check.daybookFault(x, "p goes nil;", 7, 3);
        Check.daybookFault(x, "p does h;", 7, 3);
        Check.daybookFault(x, "p says eat;", 7, 3);
        Check.daybookFault(x, "p says of;", 7, 1);
        Check.daybookFault(x, "p goes h", 8, 1);
        Check.daybookFault(x, "hour 0;", 5, 2);
        Check.daybookFault(x, "hour 100;", 5, 2);
        Check.daybookFault(x, "hour h;", 5, 1);
        Check.daybookFault(x, "hours 3;", 0, 1);
        Check.daybookFault(x, "hour 1;p goes t;r goes h;", 16, 3);
        String forty = "hour 1;".repeat(40);
        Check.due("forty", Check.daybook(x, forty, 0), -1);
        Check.daybookFault(x, forty + "hour", 280, 4);
        Check.daybookFault(x, forty + "p", 280, 4);
        Check.daybookFault(x, forty + "r goes h;", 280, 3);
        Check.daybookFault(x, forty + "place", 280, 1);
        Check.due("500 bytes", Check.daybook(x, " ".repeat(493) + "hour 1;", 0), -1);
        Check.daybookFault(x, " ".repeat(494) + "hour 1;", 500, 1);
        Check.daybookFault(x, " ".repeat(494) + "hour 100;", 499, 2);
        Check.daybookFault(x, " ".repeat(501), 500, 1);
        Check.due("nothing was lived", x.now(1), 0);
        Check.due("a fault with lives 1", Check.daybook(x, "p goes h;p", 1), -12);
        Check.due("lived nothing", x.person(0, 0), 0);
        Check.due("nothing to undo", x.undo(), -1);
    }

    private static void booked() {
        WellPromises x = Check.with(HOUSE);
        for (int what = -1; what < 5; what++) {
            Check.due("ahead of any", x.booked(what), -1);
        }
        Check.daybook(x, "r;", 0);
        Check.due("a faulty one is none", x.booked(0), -1);
        Check.daybook(x, "p says x; hour 5; q does eat; q does bow;", 0);
        int[] due = {1, 3, 5, 1};
        for (int what = 0; what < 4; what++) {
            Check.due("booked " + what, x.booked(what), due[what]);
        }
        Check.due("none broken now", x.now(5), 0);
        Check.due("booked 4", x.booked(4), -1);
        Check.due("booked below", x.booked(-1), -1);
        Check.daybook(x, "p goes", 0);
        x.daybook(7);
        x.house();
        for (int what = 0; what < 4; what++) {
            Check.due("it stays " + what, x.booked(what), due[what]);
        }
    }

    private static void why(WellPromises x, String text, int line, int why) {
        Check.due("daybook " + text, Check.daybook(x, text, 0), line);
        Check.due("why " + text, x.booked(0), why);
    }

    private static void bookedWhy() {
        WellPromises x = Check.with(HOUSE);
        why(x, "p goes h;", -1, 0);
        why(x, "p goes h;p does eat;", 1, 1);
        why(x, "p goes t;", 0, 2);
        why(x, "p goes w;", 0, 2);
        why(x, "hour 99;hour 61;", -1, 0);
        why(x, "hour 99;hour 62;", 1, 3);
        Check.due("the hours that are too many don't go", x.booked(2), 99);
        why(x, "hour 99;hour 61;p goes h;", 2, 3);
        why(x, "hour 99;hour 61;p does eat;", 2, 3);
        why(x, "hour 99;hour 61;p says z;", 2, 3);
        why(x, "hour 99;hour 61;hour 1;", 2, 3);
        why(x, "p says z;", 0, 5);
        why(x, "p says x;p says x;", 1, 6);
        WellPromises many = Check.with("hours 4;place w;person a w;person b w;person c w;person e w;deed d;");
        for (int k = 0; k < 20; k++) {
            for (int p = 0; p < 4; p++) {
                many.act(p, 0);
            }
            many.hours(1);
        }
        why(many, "a does d;", 0, 4);
    }

    private static void said(String text, int ones, int... due) {
        WellPromises x = Check.with(HOUSE);
        x.say(0, 0);
        x.say(0, 1);
        x.hours(5);
        Check.due("sentence " + text, Check.sentence(x, text), ones);
        Check.due("said of how many: " + text, x.said(-1), due.length);
        for (int k = 0; k < due.length; k++) {
            Check.due("said " + k + ": " + text, x.said(k), due[k]);
        }
        Check.due("said of no more: " + text, x.said(due.length), -1);
        Check.due("said below: " + text, x.said(-2), -1);
    }

    private static void sentences() {
        said("bound", 1, 0, 1);
        said("open", 1);
        said("broken", 1, 0, 1);
        said("not bound", 2, 2);
        said("kept or off", 2);
        said("of p", 1, 0, 1);
        said("of q", 1, 2);
        said("from<2", 1, 1, 2);
        said("from = 1", 1, 1);
        said("from > 0", 1, 0, 1);
        said("till > 3", 1, 0, 2);
        said("till < 3", 1);
        said("times = 2", 1, 2);
        said("number = 1", 1, 1);
        said("number < 2", 1, 0, 1);
        said("number > 999", 1);
        said("number = 000", 1, 0);
        said("number = 0 or number = 1 and number = 2", 3, 0);
        said("(number = 0 or number = 1) and number = 1", 4, 1);
        said("not number = 0 and number < 2", 3, 1);
        said("not (number = 0 and number < 2)", 4, 1, 2);
        said("not not bound", 3, 0, 1);
        said("number=0 and bound or number=2 and not bound", 5, 0, 2);
        said("((bound))", 3, 0, 1);
        WellPromises x = Check.with(HOUSE);
        Check.sentence(x, "kept or off");
        Check.due("none yet", x.said(-1), 0);
        x.say(0, 0);
        x.say(1, 2);
        Check.sentence(x, "open");
        Check.due("two are open", x.said(1), 2);
        x.go(0, 1);
        x.act(1, 0);
        x.hours(1);
        x.act(1, 0);
        x.go(0, 2);
        x.hours(1);
        x.act(0, 0);
        Check.due("open no more", x.said(-1), 0);
        Check.sentence(x, "kept");
        Check.due("kept now", x.said(-1), 2);
        WellPromises off = Check.with("place w;frog w;person p w;deed d;promise x p d w 3 4 1 unless d;");
        off.say(0, 0);
        off.act(0, 0);
        Check.sentence(off, "off");
        Check.due("let off", off.said(0), 0);
    }

    private static void sentenceFaults() {
        WellPromises x = Check.with(HOUSE);
        Check.sentenceFault(x, "", 0, 1);
        Check.sentenceFault(x, "  ", 2, 1);
        Check.sentenceFault(x, "bound;", 5, 1);
        Check.sentenceFault(x, "bound open", 6, 1);
        Check.sentenceFault(x, "bound or", 8, 1);
        Check.sentenceFault(x, "or bound", 0, 1);
        Check.sentenceFault(x, "bound and", 9, 1);
        Check.sentenceFault(x, "bound and of r", 13, 3);
        Check.sentenceFault(x, "bound or of r", 12, 3);
        Check.sentenceFault(x, "bound and of r or open", 13, 3);
        Check.sentenceFault(x, "not", 3, 1);
        Check.sentenceFault(x, "not and", 4, 1);
        Check.sentenceFault(x, "(bound", 6, 1);
        Check.sentenceFault(x, "()", 1, 1);
        Check.sentenceFault(x, "bound)", 5, 1);
        Check.sentenceFault(x, "x", 0, 1);
        Check.sentenceFault(x, "of", 2, 1);
        Check.sentenceFault(x, "of of", 3, 1);
        Check.sentenceFault(x, "of r", 3, 3);
        Check.sentenceFault(x, "of x", 3, 3);
        Check.sentenceFault(x, "of 1", 3, 1);
        Check.sentenceFault(x, "from 1", 5, 1);
        Check.sentenceFault(x, "from (1", 5, 1);
        Check.sentenceFault(x, "from <", 6, 1);
        Check.sentenceFault(x, "from < p", 7, 1);
        Check.sentenceFault(x, "from < 1000", 7, 1);
        Check.sentenceFault(x, "from <= 1", 6, 1);
        Check.due("eight within", Check.sentence(x, "not not not not not not not open"), 8);
        Check.sentenceFault(x, "not not not not not not not not open", 32, 4);
        Check.sentenceFault(x, "not not not not not not not not of r", 32, 4);
        Check.sentenceFault(x, "not not not not not not not not x", 32, 1);
        Check.due("seven brackets", Check.sentence(x, "(((((((open)))))))"), 8);
        Check.sentenceFault(x, "((((((((open", 8, 4);
        Check.sentenceFault(x, "(((((((((", 8, 4);
        Check.due("twenty", Check.sentence(x, "off or ".repeat(19) + "off"), 20);
        Check.sentenceFault(x, "off or ".repeat(20) + "of r", 140, 4);
        Check.sentenceFault(x, "off or ".repeat(20) + "or", 140, 1);
        Check.sentenceFault(x, "off or ".repeat(20), 140, 1);
        Check.sentenceFault(x, "off or ".repeat(19) + "not off", 137, 4);
        Check.due("200 bytes", Check.sentence(x, " ".repeat(197) + "off"), 1);
        Check.sentenceFault(x, " ".repeat(198) + "off", 200, 1);
        Check.sentenceFault(x, " ".repeat(199) + "offs", 199, 1);
        Check.sentenceFault(x, "off" + " ".repeat(198), 200, 1);
        Check.sentenceFault(x, " ".repeat(196) + "of rrr", 199, 3);
    }

    private static void sentenceStays() {
        WellPromises x = Check.with(HOUSE);
        Check.due("no sentence", x.said(-1), -1);
        Check.due("no sentence 0", x.said(0), -1);
        Check.sentence(x, "number > 0");
        Check.due("two", x.said(-1), 2);
        Check.sentence(x, "number > ");
        Check.due("the old one stays", x.said(-1), 2);
        Check.due("tape is empty", x.count(8), 0);
        Check.house(x, "place w;place w;");
        Check.due("it stays behind a faulty house", x.said(-1), 2);
        Check.house(x, HOUSE);
        Check.due("a new house has none", x.said(-1), -1);
    }

    private static void images() {
        WellPromises x = Check.with(HOUSE);
        Check.due("no image 2", x.image(2), false);
        Check.due("no image below", x.image(-1), false);
        Check.due("nothing kept", x.restore(0), false);
        Check.due("no restore 2", x.restore(2), false);
        Check.due("no restore below", x.restore(-1), false);
        x.say(0, 0);
        x.act(1, 1);
        x.hours(3);
        Check.sentence(x, "bound");
        Check.due("image 0", x.image(0), true);
        Check.due("place 1 is its own", x.restore(1), false);
        Check.house(x, "hours 5;place a;person p a;deed d;");
        x.act(0, 0);
        x.hours(2);
        x.act(0, 0);
        Check.due("image 1", x.image(1), true);
        Check.daybook(x, "hour 1;", 0);
        Check.tape(x, "abc");
        Check.due("restore 0", x.restore(0), true);
        Check.due("hours", x.count(0), 8);
        Check.due("promises", x.count(6), 3);
        Check.due("the tape stays", x.count(8), 3);
        Check.due("time", x.now(1), 3);
        Check.due("deeds", x.now(2), 1);
        Check.due("its deed", x.done(0, 2), 1);
        Check.due("sentence", x.said(-1), 1);
        Check.due("booked stays", x.booked(2), 3);
        Check.due("nothing to undo", x.undo(), -1);
        x.end(0);
        Check.due("names are as kept", Check.daybook(x, "p goes h;q does bow;", 1), -1);
        Check.due("restore again", x.restore(0), true);
        Check.due("deeds again", x.now(2), 1);
        Check.due("restore 1", x.restore(1), true);
        Check.due("hours of 1", x.count(0), 5);
        Check.due("deeds of 1", x.now(2), 2);
        Check.due("first deed of 1", x.done(0, 0), 0);
        Check.due("second deed of 1", x.done(1, 0), 2);
        Check.due("no sentence in 1", x.said(-1), -1);
        x.hours(1);
        x.image(0);
        Check.due("an image leaves what can be undone", x.undo(), 0);
        x.restore(0);
        Check.due("the newer image", x.now(1), 3);
    }

    private static void counts() {
        WellPromises x = Check.with(HOUSE + "vow x y;vow x z;vow y z;vow z y;vow z x;");
        Check.tape(x, "abcde");
        int[] due = {8, 3, 2, 2, 2, 2, 3, 5, 5};
        for (int what = 0; what < due.length; what++) {
            Check.due("count " + what, x.count(what), due[what]);
        }
        Check.due("count 9", x.count(9), -1);
        Check.due("count below", x.count(-1), -1);
    }
}
