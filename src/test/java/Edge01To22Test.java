import java.util.NoSuchElementException;

/** The boundary cases of promises 1 to 22, call by call: too small, too large, empty, full, refused. */
public final class Edge01To22Test {
    private static final int[] WILD = {-1, -2, 8, 9, 31, 32, 33, 64, Integer.MAX_VALUE, Integer.MIN_VALUE};
    private static final String PEOPLE = "hours 8;place w;place h;place t;place far;way w h;way h t;frog w;frog h;person p w;"
        + "person q h;deed eat;deed bow;";
    private static final String HOUSE = PEOPLE
        + "promise x p eat t 2 4 1;promise y p bow h 1 3 1 each unless eat;promise z q eat h 0 7 2;vow x y;vow y x;";
    private static final String CROWD = "hours 4;place w;place h;way w h;frog w;person a w;person b w;person c w;person e w;"
        + "deed d;promise x a d w 0 3 1;";

    public static void main(String[] args) {
        p01NewObject();
        p02Feed();
        p03End();
        p04House();
        p05Fault();
        p06Promise();
        p07Person();
        p08Way();
        p09Frog();
        p10Now();
        p11WhyGo();
        p12Go();
        p13Act();
        p14Say();
        p15Hours();
        p16Done();
        p17Undo();
        p17UndoRefused();
        p17UndoOfBooks();
        p18Window();
        p18LongerThanTheDay();
        p18EmptyWindow();
        p18EmptyWindowAtTheFirstHour();
        p18LetOff();
        p18Times();
        p18LastDay();
        p19Readings();
        p20Broken();
        p21Breach();
        p22Asks();
        Check.done("Edge01To22Test");
    }

    private static WellPromises promised(String terms) {
        return Check.with(PEOPLE + "promise x " + terms + ";");
    }

    private static void pass(WellPromises x, int hours) {
        if (hours > 0) {
            x.hours(hours);
        }
    }

    private static void p01NewObject() {
        WellPromises x = new WellPromises();
        for (int n = -1; n < 3; n++) {
            Check.due("new person", x.person(n, 0), -1);
            Check.due("new way", x.way(n, n), -1);
            Check.due("new frog", x.frog(n), -1);
            Check.due("new whyGo", x.whyGo(n, n), -1);
            Check.due("new go", x.go(n, n), -1);
            Check.due("new act", x.act(n, n), -1);
            Check.due("new say", x.say(n, n), -1);
            Check.due("new done", x.done(n, 0), -1);
            Check.due("new status", x.status(n, 0), -1);
            Check.due("new readings", x.readings(n, 0), -1);
            Check.due("new broken", x.broken(n, 0), -1);
            Check.due("new breach", x.breach(n, 0), -1);
            Check.due("new asks", x.asks(n, 0), -1);
            Check.due("new plan", x.plan(n), -1);
            Check.due("new step", x.step(n), -1);
            Check.due("new quarrel", x.quarrel(n), -1);
            Check.due("new chain", x.chain(n), -1);
            Check.due("new knows", x.knows(n, n), -1);
            Check.due("new heard", x.heard(n), -1);
            Check.due("new windows", x.windows(n, n, n), -1);
            Check.due("new shortest", x.shortest(n, n, n), -1);
            Check.due("new drawn", x.drawn(n, 1), -1);
            Check.due("new odds", x.odds(n, 1, 1), -1);
            Check.due("new booked", x.booked(n), -1);
            Check.due("new said", x.said(n), -1);
            Check.due("new restore", x.restore(n), false);
        }
        int[] so = {0, 0, 0, 0, 0, 0, -1};
        for (int what = 0; what < so.length; what++) {
            Check.due("new now " + what, x.now(what), so[what]);
        }
        Check.due("new agree", x.agree(), 255);
        Check.due("new rings", x.rings(), 0);
        Check.due("new roots", x.roots(), 0);
        Check.due("new dry", x.dry(), 0);
        Check.due("new undo", x.undo(), -1);
        Check.due("new end", x.end(1), false);
        Check.due("new house", x.house(), 0);
        WellPromises y = new WellPromises();
        Check.house(x, HOUSE);
        x.hours(3);
        x.image(0);
        Check.tape(x, "place");
        Check.due("another object has its own house", y.count(1), 0);
        Check.due("its own time", y.now(1), 0);
        Check.due("its own tape", y.count(8), 0);
        Check.due("its own images", y.restore(0), false);
    }

    private static void p02Feed() {
        WellPromises x = new WellPromises();
        Check.due("feed", x.feed(0x706c6163, 0x65206162, 0x63646566, 0x673b6672, 0x6f672061), 20);
        Check.due("feed behind", x.feed(0x62636465, 0x66673b20, 0x20202020, 0x20202020, 0x20202020), 40);
        Check.due("all twenty come in order", x.house(), 2);
        for (int k = 0; k < 5; k++) {
            int[] n = {0x20202020, 0x20202020, 0x20202020, 0x20202020, 0x20202020};
            for (int b = 0; b < 4; b++) {
                n[k] = 0x20202020 ^ (0x20 ^ 0xff) << 24 - 8 * b;
                x.feed(n[0], n[1], n[2], n[3], n[4]);
                Check.due("byte 255 at " + (4 * k + b), x.house(), -1 - (4 * k + b));
            }
        }
        for (int had = 0; had < 21; had++) {
            WellPromises y = new WellPromises();
            for (int k = 0; k < 46; k++) {
                y.feed(0x20202020, 0x20202020, 0x20202020, 0x20202020, 0x20202020);
            }
            y.end(900 + had);
            Check.due("end of 920", y.count(8), 900 + had);
            boolean fits = had <= 20;
            Check.due("feed to " + (920 + had), y.feed(0, 0, 0, 0, 0), fits ? 920 + had : -1);
        }
        for (int had = 921; had <= 940; had++) {
            WellPromises y = new WellPromises();
            for (int k = 0; k < 47; k++) {
                y.feed(0x20202020, 0x20202020, 0x20202020, 0x20202020, 0x20202020);
            }
            y.end(had);
            Check.due("too much for " + had, y.feed(0x3b3b3b3b, 0, 0, 0, 0), -1);
            Check.due("none come", y.count(8), had);
            y.end(900);
            Check.due("what was there stays", y.house(), 0);
        }
    }

    private static void p03End() {
        WellPromises x = new WellPromises();
        Check.tape(x, "place w;place w;");
        Check.due("more than there are", x.end(17), false);
        Check.due("below", x.end(-1), false);
        Check.due("far below", x.end(Integer.MIN_VALUE), false);
        Check.due("far above", x.end(Integer.MAX_VALUE), false);
        Check.due("refused ones change nothing", x.count(8), 16);
        Check.due("as many as there are", x.end(16), true);
        Check.due("eight", x.end(8), true);
        Check.due("nine are no more", x.end(9), false);
        Check.due("the first ones stay", x.house(), 1);
        Check.due("none are left", x.end(1), false);
        Check.due("none of none", x.end(0), true);
        Check.tape(x, "place w;");
        x.end(6);
        x.feed(0x683b0000, 0, 0, 0, 0);
        x.end(8);
        Check.due("what was cut does not come back", x.house(), 1);
        Check.tape(x, "place");
        Check.due("all are cut", x.end(0), true);
        Check.due("an empty tape", x.house(), 0);
    }

    private static void p04House() {
        WellPromises x = Check.with(HOUSE);
        x.say(0, 0);
        x.go(0, 1);
        x.hours(2);
        x.act(0, 1);
        Check.sentence(x, "bound");
        x.plan(0);
        Check.tape(x, "place w;place 7;");
        Check.due("a fault", x.house(), -15);
        Check.due("the tape is empty", x.count(8), 0);
        Check.due("the house stays", x.count(6), 3);
        Check.due("time stays", x.now(1), 2);
        Check.due("deeds stay", x.now(2), 1);
        Check.due("said ones stay", x.now(3), 1);
        Check.due("places stay", x.person(0, 0), 1);
        Check.due("busy stays", x.person(0, 1), 1);
        Check.due("the sentence stays", x.said(-1), 1);
        Check.due("undo stays", x.undo(), 3);
        x.act(0, 1);
        Check.due("the same house again", Check.house(x, HOUSE), 18);
        int[] so = {0, 0, 0, 0, 0, 0};
        for (int what = 0; what < so.length; what++) {
            Check.due("new house now " + what, x.now(what), so[what]);
        }
        Check.due("it is at home", x.person(0, 0), 0);
        Check.due("not busy", x.person(0, 1), 0);
        Check.due("no deeds", x.person(0, 2), 0);
        Check.due("no goings", x.person(0, 3), 0);
        Check.due("not said", x.promise(0, 8), -1);
        Check.due("nothing done", x.done(0, 0), -1);
        Check.due("no sentence", x.said(-1), -1);
        Check.due("nothing to undo", x.undo(), -1);
        Check.due("an empty one", x.house(), 0);
        Check.due("no places", x.count(1), 0);
        Check.due("no persons", x.person(0, 0), -1);
    }

    private static void p05Fault() {
        WellPromises x = Check.with(HOUSE);
        Check.due("none", x.fault(), 0);
        Check.house(x, "hours 3;");
        Check.due("of a house", x.fault(), 2);
        x.hours(1);
        x.image(0);
        x.restore(0);
        x.undo();
        Check.due("other calls leave it", x.fault(), 2);
        x.daybook(2);
        x.daybook(-1);
        x.daybook(Integer.MAX_VALUE);
        Check.due("another lives leaves it", x.fault(), 2);
        Check.daybook(x, "p goes nil;", 1);
        Check.due("of a daybook", x.fault(), 3);
        Check.sentence(x, "off or");
        Check.due("of a sentence", x.fault(), 1);
        Check.daybook(x, "p goes t;", 0);
        Check.due("a wrong line is no fault", x.fault(), 0);
        Check.sentence(x, "off)");
        Check.due("again", x.fault(), 1);
        Check.sentence(x, "off");
        Check.due("a good sentence", x.fault(), 0);
        Check.house(x, "place");
        x.house();
        Check.due("a good house", x.fault(), 0);
    }

    private static boolean throwsNone(WellPromises x, int p, int what) {
        try {
            x.promise(p, what);
        } catch (NoSuchElementException e) {
            return true;
        }
        return false;
    }

    private static void p06Promise() {
        WellPromises x = Check.with(HOUSE);
        x.say(1, 2);
        Check.tape(x, "ab");
        for (int n : WILD) {
            Check.due("promise " + n, throwsNone(x, n, 0), true);
            Check.due("what " + n, throwsNone(x, 0, n == 8 || n == 9 ? n + 2 : n), true);
        }
        Check.due("promise 3", throwsNone(x, 3, 9), true);
        Check.due("what 10", throwsNone(x, 0, 10), true);
        Check.due("the last one", throwsNone(x, 2, 9), false);
        Check.due("of a new object", throwsNone(new WellPromises(), 0, 0), true);
        Check.due("a call that throws leaves the tape", x.count(8), 2);
        Check.due("the time", x.promise(2, 8), 0);
        Check.due("what was said", x.now(3), 1);
        Check.due("what can be undone", x.undo(), 0);
        Check.due("no more said", x.promise(2, 8), -1);
        x = promised("p eat w 1 2 1");
        x.go(0, 1);
        x.hours(3);
        x.go(0, 2);
        x.say(0, 0);
        Check.due("said unheard", x.promise(0, 8), 3);
        Check.due("none is bound", x.promise(0, 9), 0);
        x = promised("p eat w 1 2 1");
        x.go(0, 1);
        x.say(0, 0);
        Check.due("said where it is now", x.promise(0, 9), 1);
        x.hours(1);
        x.go(0, 2);
        Check.due("bound wherever it goes", x.promise(0, 9), 1);
    }

    private static void p07Person() {
        WellPromises x = Check.with(CROWD);
        for (int n : WILD) {
            Check.due("person " + n, x.person(n, 0), -1);
            Check.due("what " + n, x.person(0, n), -1);
        }
        Check.due("no fifth", x.person(4, 0), -1);
        Check.due("what 4", x.person(3, 4), -1);
        x.act(3, 0);
        x.go(2, 1);
        x.go(1, 0);
        int[] busy = {0, 0, 1, 1};
        int[] deeds = {0, 0, 0, 1};
        int[] goings = {0, 0, 1, 0};
        for (int p = 0; p < 4; p++) {
            Check.due("busy " + p, x.person(p, 1), busy[p]);
            Check.due("deeds " + p, x.person(p, 2), deeds[p]);
            Check.due("goings " + p, x.person(p, 3), goings[p]);
        }
        x.act(2, 0);
        x.go(3, 1);
        Check.due("a refused deed is none", x.person(2, 2), 0);
        Check.due("a refused going is none", x.person(3, 3), 0);
        x.say(0, 0);
        Check.due("who says is not busy", x.person(0, 1), 0);
        x.hours(1);
        for (int p = 0; p < 4; p++) {
            Check.due("not busy in the next hour " + p, x.person(p, 1), 0);
        }
    }

    private static void p08Way() {
        WellPromises x = Check.with("place a;place b;place c;place e;place f;place g;place h;place i;"
            + "way b a;way c b;way e c;way f e;way g f;way h g;way i h;way a e;");
        int[] from = {0, 1, 2, 1, 2, 3, 4, 5};
        for (int b = 0; b < 8; b++) {
            Check.due("from the first to " + b, x.way(0, b), from[b]);
            Check.due("and back", x.way(b, 0), from[b]);
            Check.due("to itself " + b, x.way(b, b), 0);
        }
        for (int n : WILD) {
            Check.due("from none " + n, x.way(n, 0), -1);
            Check.due("to none " + n, x.way(0, n), -1);
            Check.due("none to itself " + n, x.way(n, n), -1);
        }
        x = Check.with("place a;place b;place c;place e;way a b;way c e;");
        Check.due("no way", x.way(0, 2), -1);
        Check.due("no way back", x.way(3, 1), -1);
        Check.due("the other two", x.way(2, 3), 1);
        Check.due("one alone to itself", Check.with("place a;").way(0, 0), 0);
        Check.due("none yet", Check.with("place a;").way(1, 1), -1);
    }

    private static void p09Frog() {
        WellPromises x = Check.with("place a;place b;frog b;frog a;frog b;frog b;frog b;frog a;");
        int[] due = {1, 0, 1, 1, 1, 0};
        for (int f = 0; f < due.length; f++) {
            Check.due("frog " + f, x.frog(f), due[f]);
        }
        Check.due("no seventh", x.frog(6), -1);
        for (int n : WILD) {
            Check.due("frog " + n, x.frog(n), -1);
        }
        Check.due("no frogs", Check.with("place a;").frog(0), -1);
    }

    private static void p10Now() {
        WellPromises x = Check.with(HOUSE);
        for (int n : WILD) {
            Check.due("now " + n, x.now(n), -1);
        }
        Check.due("now 6", x.now(6), -1);
        x.hours(7);
        Check.due("the day's last hour", x.now(1), 7);
        Check.due("its day", x.now(0), 0);
        x.hours(1);
        Check.due("the next day's first hour", x.now(1), 0);
        Check.due("the next day", x.now(0), 1);
        x.hours(99);
        x.hours(52);
        Check.due("the last hour of all", x.now(0), 19);
        Check.due("it is hour 7", x.now(1), 7);
        x.hours(1);
        Check.due("all days are over", x.now(0), 20);
        Check.due("then it is hour 0", x.now(1), 0);
        x = Check.with(PEOPLE + "promise x p eat w 0 1 1;promise y p eat w 1 2 1;promise z q eat w 2 3 1;promise v q bow w 0 0 1;");
        x.say(0, 0);
        x.say(0, 1);
        x.go(1, 2);
        x.say(1, 2);
        Check.due("three are said", x.now(3), 3);
        Check.due("by two somebody is bound", x.now(4), 2);
        x.hours(1);
        Check.due("none is broken by reading 0", x.now(5), 0);
        Check.due("one is by reading 1", x.status(0, 1), 4);
        x.hours(1);
        Check.due("one is broken", x.now(5), 1);
        x.hours(1);
        Check.due("two are broken", x.now(5), 2);
        x.hours(5);
        Check.due("who is not bound breaks nothing", x.now(5), 2);
    }

    private static void p11WhyGo() {
        WellPromises x = Check.with(HOUSE);
        for (int n : WILD) {
            Check.due("person " + n, x.whyGo(n, 1), -1);
            Check.due("place " + n, x.whyGo(0, n), -1);
        }
        Check.due("no third person", x.whyGo(2, 1), -1);
        Check.due("no fifth place", x.whyGo(0, 4), -1);
        Check.due("it can", x.whyGo(0, 1), 0);
        Check.due("where it is", x.whyGo(0, 0), 2);
        Check.due("two steps away", x.whyGo(0, 2), 2);
        Check.due("never a way", x.whyGo(0, 3), 2);
        Check.due("asking changes nothing", x.person(0, 1), 0);
        x.act(0, 0);
        Check.due("busy", x.whyGo(0, 1), 1);
        Check.due("busy comes ahead of no way", x.whyGo(0, 2), 1);
        Check.due("asking is not kept", x.undo(), 0);
        x.hours(99);
        x.hours(61);
        Check.due("all is over", x.whyGo(0, 1), 3);
        Check.due("no way comes ahead of it", x.whyGo(0, 0), 2);
        Check.due("no such one comes ahead of all", x.whyGo(0, 4), -1);
    }

    private static void p12Go() {
        WellPromises x = Check.with(HOUSE);
        for (int n : WILD) {
            Check.due("person " + n, x.go(n, 1), -1);
            Check.due("place " + n, x.go(0, n), -1);
        }
        Check.due("where it is", x.go(0, 0), 2);
        Check.due("two steps away", x.go(0, 2), 2);
        Check.due("nothing to undo", x.undo(), -1);
        Check.due("one goes", x.go(0, 1), 0);
        Check.due("the other goes in the same hour", x.go(1, 0), 0);
        Check.due("not twice", x.go(0, 2), 1);
        Check.due("the other not twice", x.go(1, 1), 1);
        x.hours(1);
        Check.due("in the next hour", x.go(0, 2), 0);
        x.hours(99);
        x.hours(59);
        Check.due("in the last hour", x.go(0, 1), 0);
        x.hours(1);
        Check.due("not behind it", x.go(0, 0), 3);
        Check.due("it stays", x.person(0, 0), 1);
        x = Check.with(CROWD);
        doEighty(x);
        Check.due("80 deeds don't keep it from going", x.go(0, 1), 0);
    }

    private static void doEighty(WellPromises x) {
        for (int k = 0; k < 20; k++) {
            for (int p = 0; p < 4; p++) {
                x.act(p, 0);
            }
            x.hours(1);
        }
        Check.due("eighty", x.now(2), 80);
    }

    private static void p13Act() {
        WellPromises x = Check.with(HOUSE);
        for (int n : WILD) {
            Check.due("person " + n, x.act(n, 0), -1);
            Check.due("deed " + n, x.act(0, n), -1);
        }
        Check.due("no third deed", x.act(0, 2), -1);
        Check.due("nothing to undo", x.undo(), -1);
        Check.due("the last deed", x.act(0, 1), 0);
        Check.due("not twice", x.act(0, 1), 1);
        Check.due("no going besides", x.go(0, 1), 1);
        x.go(1, 0);
        Check.due("no deed behind a going", x.act(1, 0), 1);
        x = Check.with(CROWD);
        for (int k = 0; k < 19; k++) {
            for (int p = 0; p < 4; p++) {
                x.act(p, 0);
            }
            x.hours(1);
        }
        x.act(0, 0);
        x.act(1, 0);
        x.act(2, 0);
        Check.due("79 were done", x.now(2), 79);
        Check.due("the 80th", x.act(3, 0), 0);
        Check.due("busy ahead of the 81st", x.act(3, 0), 1);
        x.hours(1);
        Check.due("the 81st", x.act(3, 0), 4);
        Check.due("who was refused is not busy", x.person(3, 1), 0);
        x.hours(59);
        Check.due("in the last hour", x.act(3, 0), 4);
        x.hours(1);
        Check.due("all is over comes ahead of it", x.act(3, 0), 3);
        x = Check.with(HOUSE);
        x.hours(99);
        x.hours(60);
        Check.due("a deed in the last hour", x.act(0, 0), 0);
        x.hours(1);
        Check.due("none behind it", x.act(0, 0), 3);
        Check.due("its time", x.done(0, 0), 159);
    }

    private static void p14Say() {
        WellPromises x = Check.with(HOUSE);
        for (int n : WILD) {
            Check.due("person " + n, x.say(n, 0), -1);
            Check.due("promise " + n, x.say(0, n), -1);
        }
        Check.due("no third person", x.say(2, 0), -1);
        Check.due("no fourth promise", x.say(0, 3), -1);
        Check.due("another one's", x.say(1, 0), 5);
        Check.due("nothing to undo", x.undo(), -1);
        Check.due("its own", x.say(0, 0), 0);
        Check.due("it was said", x.say(0, 0), 6);
        Check.due("another one's that was said", x.say(1, 0), 5);
        Check.due("a second in the same hour", x.say(0, 1), 0);
        x.go(0, 1);
        x.undo();
        x.undo();
        x.go(0, 1);
        Check.due("behind a going", x.say(0, 1), 0);
        x.undo();
        x.undo();
        x.undo();
        Check.due("said no more, so it can be", x.say(0, 0), 0);
        x.undo();
        x.hours(99);
        x.hours(60);
        Check.due("in the last hour", x.say(0, 0), 0);
        x.hours(1);
        Check.due("all is over", x.say(0, 1), 3);
        Check.due("ahead of being said", x.say(0, 0), 3);
        Check.due("ahead of being another one's", x.say(1, 1), 3);
        x = Check.with(HOUSE);
        x.go(1, 2);
        x.say(1, 2);
        x.hours(1);
        x.go(1, 1);
        Check.due("said unheard is said", x.say(1, 2), 6);
    }

    private static void p15Hours() {
        for (int hours = 4; hours <= 24; hours++) {
            WellPromises x = Check.with("hours " + hours + ";");
            Check.due("0", x.hours(0), -1);
            Check.due("100", x.hours(100), -1);
            Check.due("below", x.hours(-1), -1);
            Check.due("far below", x.hours(Integer.MIN_VALUE), -1);
            Check.due("far above", x.hours(Integer.MAX_VALUE), -1);
            Check.due("refused ones change nothing", x.now(1), 0);
            int left = 20 * hours;
            for (int k = 0; k < 6; k++) {
                int gone = Math.min(99, left);
                Check.due("99 of " + left, x.hours(99), gone);
                left -= gone;
                Check.due("the day", x.now(0), (20 * hours - left) / hours);
                Check.due("the hour", x.now(1), (20 * hours - left) % hours);
            }
            Check.due("none are left", x.hours(1), 0);
        }
        WellPromises x = Check.with("hours 5;");
        x.hours(98);
        Check.due("just as many as are left", x.hours(2), 2);
        Check.due("over", x.now(0), 20);
    }

    private static void p16Done() {
        WellPromises x = Check.with(CROWD);
        Check.due("none", x.done(0, 0), -1);
        doEighty(x);
        for (int k = 0; k < 80; k++) {
            Check.due("when " + k, x.done(k, 0), k / 4);
            Check.due("who " + k, x.done(k, 1), k % 4);
        }
        for (int n : WILD) {
            Check.due("done " + n, x.done(n < 80 && n > 0 ? 80 : n, 0), -1);
            Check.due("what " + n, x.done(0, n), -1);
        }
        Check.due("no 81st", x.done(80, 0), -1);
        Check.due("what 4", x.done(79, 4), -1);
        x = Check.with(HOUSE);
        x.go(0, 1);
        x.act(1, 1);
        Check.due("a going is no deed", x.done(1, 0), -1);
        Check.due("the deed", x.done(0, 2), 1);
        x.undo();
        Check.due("undone", x.done(0, 2), -1);
        x.act(1, 0);
        Check.due("another one in its place", x.done(0, 2), 0);
    }

    private static void p17Undo() {
        WellPromises x = Check.with(HOUSE);
        Check.due("none", x.undo(), -1);
        for (int kept = 1; kept <= 20; kept++) {
            x.hours(1);
            x.undo();
            x.hours(1);
            x.hours(1);
            Check.due("kept " + kept, x.undo(), Math.min(kept, 8) - (kept < 8 ? 0 : 1));
        }
        Check.due("time behind twenty", 8 * x.now(0) + x.now(1), 20);
        for (int k = 6; k >= 0; k--) {
            Check.due("how many more", x.undo(), k);
        }
        Check.due("none more", x.undo(), -1);
        Check.due("seven and the lost ones stay", 8 * x.now(0) + x.now(1), 13);
        x = Check.with(CROWD);
        doEighty(x);
        for (int k = 0; k < 3; k++) {
            x.undo();
        }
        Check.due("deeds left", x.now(2), 78);
        x.hours(1);
        Check.due("other deeds in their place", x.act(3, 0), 0);
        Check.due("when", x.done(78, 0), 20);
        x.undo();
        x.undo();
        Check.due("one that stood stands", x.act(2, 0), 0);
        Check.due("its time", x.done(78, 0), 19);
        x = Check.with(HOUSE);
        x.hours(4);
        Check.due("image keeps", x.image(0), true);
        Check.due("what can be undone", x.undo(), 0);
        x.hours(1);
        x.hours(1);
        x.restore(0);
        Check.due("restore leaves nothing to undo", x.undo(), -1);
        Check.due("and undid nothing", x.now(1), 4);
    }

    private static void p17UndoRefused() {
        WellPromises x = Check.with(HOUSE);
        x.go(0, 0);
        x.go(5, 0);
        x.act(0, 5);
        x.say(1, 0);
        x.say(9, 0);
        x.hours(0);
        x.hours(100);
        x.drawn(0, 1);
        x.drawn(100, 1);
        x.daybook(2);
        Check.daybook(x, "p goes nil;", 1);
        Check.daybook(x, "p goes h;", 0);
        x.odds(0, 3, 3);
        x.plan(0);
        x.house();
        Check.due("none of these is kept", x.undo(), -1);
        x = Check.with(HOUSE);
        x.hours(99);
        x.hours(61);
        x.hours(1);
        x.drawn(1, 1);
        x.act(0, 0);
        x.go(0, 1);
        x.say(0, 0);
        Check.due("nor behind all days", x.undo(), 1);
        Check.due("61 hours are undone", 8 * x.now(0) + x.now(1), 99);
        x.act(0, 0);
        x.act(0, 1);
        Check.due("a refused one behind one that was done", x.undo(), 1);
        Check.due("the deed is undone", x.now(2), 0);
    }

    private static void p17UndoOfBooks() {
        WellPromises x = Check.with(HOUSE);
        Check.daybook(x, "p goes h;p says y;hour 9;p does bow;q goes t;p goes w;", 1);
        Check.due("when", 8 * x.now(0) + x.now(1), 9);
        Check.due("a whole daybook is one", x.undo(), 0);
        Check.due("its hours", x.now(1), 0);
        Check.due("its deeds", x.now(2), 0);
        Check.due("its promises", x.now(3), 0);
        Check.due("its goings", x.person(0, 0), 0);
        Check.due("the other one's", x.person(1, 3), 0);
        x.drawn(30, 4);
        Check.due("drawn hours are one", x.undo(), 0);
        Check.due("all of them", x.now(1) + x.now(2) + x.now(3), 0);
        Check.due("a daybook that is wrong at once", Check.daybook(x, "p goes t;", 1), 0);
        Check.due("was lived", x.undo(), 0);
        Check.due("so was an empty one", x.daybook(1), -1);
        Check.due("of no line", x.undo(), 0);
    }

    /** A window from 2 to 4: what is said, done and over in each HOUR, by READINGS 0 and 1. */
    private static void p18Window() {
        for (int said = 0; said < 8; said++) {
            for (int reading = 0; reading < 2; reading++) {
                int last = 4 - reading;
                int day = said <= last ? 0 : 1;
                WellPromises x = promised("p eat w 2 4 1");
                pass(x, said);
                x.say(0, 0);
                x.hours(99);
                Check.due("said in " + said + ", broken by " + reading, x.broken(0, reading), day);
                x.undo();
                for (int hour = said; hour < 16; hour++) {
                    boolean over = hour > 8 * day + last;
                    Check.due("said in " + said + ", hour " + hour, x.status(0, reading), over ? 4 : 1);
                    x.act(0, 0);
                    boolean inside = hour / 8 == day && hour % 8 >= 2 && hour % 8 <= last;
                    Check.due("done in " + hour, x.status(0, reading), inside ? 2 : over ? 4 : 1);
                    x.undo();
                    x.hours(1);
                }
            }
        }
    }

    private static void p18LongerThanTheDay() {
        for (int from = 5; from <= 9; from++) {
            WellPromises x = promised("p eat w " + from + " 12 1 unless bow");
            x.hours(7);
            x.say(0, 0);
            Check.due("due today from " + from, x.asks(0, 0), 1);
            x.act(0, 0);
            Check.due("the last hour that there is", x.status(0, 0), from <= 7 ? 2 : 1);
            x.undo();
            x.act(0, 1);
            Check.due("it lets off", x.readings(0, 3), 255);
            x.undo();
            x.hours(1);
            Check.due("over at the day's end", x.readings(0, 4), 255);
            Check.due("that day", x.broken(0, 1), 0);
        }
        WellPromises x = promised("p eat w 7 8 1");
        x.say(0, 0);
        x.hours(7);
        x.act(0, 0);
        Check.due("without a TILL that there is not", x.readings(0, 2), 255);
        x = promised("p eat w 7 7 1");
        x.say(0, 0);
        x.hours(7);
        Check.due("without the last hour", x.readings(0, 4), 0xaa);
        x = promised("p eat w 8 8 1");
        x.say(0, 0);
        x.hours(7);
        Check.due("empty behind the day, not over yet", x.readings(0, 1), 255);
        x.hours(1);
        Check.due("over at the day's end", x.readings(0, 4), 255);
    }

    private static void p18EmptyWindow() {
        for (int said = 0; said < 8; said++) {
            int day = said <= 3 ? 0 : 1;
            for (int hour = said; hour < 16; hour++) {
                WellPromises x = promised("p eat w 4 4 1 unless bow");
                pass(x, said);
                x.say(0, 0);
                pass(x, hour - said);
                boolean over = hour > 8 * day + 3;
                Check.due("empty, said in " + said + ", hour " + hour, x.status(0, 1), over ? 4 : 1);
                x.act(0, 0);
                Check.due("nothing keeps it", x.status(0, 1), over ? 4 : 1);
                x.undo();
                x.act(0, 1);
                boolean off = hour / 8 == day && hour % 8 <= 3;
                Check.due("let off in " + hour, x.status(0, 1), off ? 3 : over ? 4 : 1);
                Check.due("due today", x.asks(0, 1), hour / 8 == day ? 1 : -1);
            }
        }
    }

    private static void p18EmptyWindowAtTheFirstHour() {
        for (int said = 0; said < 8; said++) {
            WellPromises x = promised("p eat w 0 0 1 unless bow");
            pass(x, said);
            x.say(0, 0);
            x.act(0, 1);
            Check.due("due on the next day", x.asks(0, 1), -1);
            pass(x, 7 - said);
            Check.due("open till then", x.status(0, 1), 1);
            x.hours(1);
            Check.due("over as it begins", x.status(0, 1), 4);
            Check.due("on the next day", x.broken(0, 1), 1);
            Check.due("it asks all the same", x.asks(0, 1), 1);
            x.act(0, 1);
            Check.due("nothing lets off then", x.status(0, 1), 4);
        }
        WellPromises x = promised("p eat w 0 0 1 each unless bow");
        x.say(0, 0);
        x.hours(7);
        Check.due("each, open till then", x.status(0, 1), 1);
        x.hours(1);
        Check.due("each, broken then", x.broken(0, 1), 1);
    }

    private static void p18LetOff() {
        for (int hour = 0; hour < 8; hour++) {
            WellPromises x = promised("p eat w 3 5 1 unless bow");
            pass(x, hour);
            x.act(1, 1);
            boolean beforeSaying = hour < 2;
            pass(x, 2 - hour);
            x.say(0, 0);
            boolean today = hour <= 5;
            int due = beforeSaying || !today ? 1 : 3;
            Check.due("another one's deed in " + hour, x.status(0, 0), due);
            Check.due("by its own deeds alone", x.status(0, 2), 1);
        }
        WellPromises x = promised("p eat w 3 5 1 each unless bow");
        x.say(0, 0);
        for (int day = 0; day < 5; day++) {
            pass(x, day % 3);
            x.act(day % 2, 1);
            pass(x, 8 - day % 3);
        }
        Check.due("let off on each day", x.broken(0, 0), -1);
        Check.due("its own on the first day alone", x.broken(0, 2), 1);
        x.hours(6);
        Check.due("not on the sixth", x.broken(0, 0), 5);
        x = promised("p eat w 3 5 1");
        x.say(0, 0);
        x.act(0, 1);
        x.act(1, 0);
        Check.due("nothing lets off without unless", x.readings(0, 3), 0);
    }

    private static void p18Times() {
        for (int times = 1; times <= 3; times++) {
            WellPromises x = promised("p eat w 1 6 " + times);
            x.say(0, 0);
            x.hours(1);
            for (int k = 1; k <= 5; k++) {
                x.act(0, 0);
                Check.due(times + " times, done " + k, x.status(0, 0), k >= times ? 2 : 1);
                Check.due("it asks", x.asks(0, 0), Math.max(0, times - k));
                x.hours(1);
            }
            x.hours(9);
            Check.due("then", x.status(0, 0), 2);
        }
        WellPromises x = promised("p eat w 0 7 2");
        x.hours(7);
        x.say(0, 0);
        x.act(0, 0);
        x.hours(1);
        x.act(0, 0);
        Check.due("two days' deeds don't add", x.broken(0, 0), 0);
        x = promised("p eat w 0 7 2 each");
        x.say(0, 0);
        x.act(0, 0);
        x.hours(1);
        x.act(0, 0);
        x.hours(7);
        x.act(0, 0);
        x.hours(8);
        Check.due("each day on its own", x.broken(0, 0), 1);
    }

    private static void p18LastDay() {
        WellPromises x = promised("p eat w 2 7 1");
        x.hours(99);
        x.hours(60);
        x.say(0, 0);
        Check.due("due in the last hour", x.asks(0, 0), 1);
        Check.due("on no day without it", x.asks(0, 1), -1);
        x.hours(1);
        Check.due("broken", x.status(0, 0), 4);
        Check.due("on day 19", x.broken(0, 0), 19);
        Check.due("open", x.status(0, 1), 1);
        Check.due("on no day", x.broken(0, 1), -1);
        Check.due("not by all", x.breach(0, 1), -1);
        x = promised("p eat w 0 0 1 each");
        x.hours(99);
        x.hours(55);
        x.say(0, 0);
        x.hours(6);
        Check.due("each, due on no day", x.readings(0, 1), 255);
        x = promised("p eat w 0 7 1 each");
        x.say(0, 0);
        for (int day = 0; day < 20; day++) {
            pass(x, 7);
            Check.due("each, day " + day, x.status(0, 0), 1);
            x.act(0, 0);
            x.hours(1);
        }
        x.hours(99);
        Check.due("each, nineteen days kept", x.now(0), 20);
        Check.due("each, the last one too", x.status(0, 0), 1);
    }

    private static void p19Readings() {
        WellPromises x = promised("p eat h 2 4 1 unless bow");
        for (int n : WILD) {
            Check.due("status " + n, x.readings(0, n), -1);
            Check.due("promise " + n, x.readings(n, 0), -1);
        }
        Check.due("no status 5", x.readings(0, 5), -1);
        Check.due("status 0", x.readings(0, 0), 255);
        for (int status = 1; status < 5; status++) {
            Check.due("none is " + status, x.readings(0, status), 0);
        }
        x.say(0, 0);
        x.hours(3);
        x.act(1, 1);
        x.act(0, 0);
        x.hours(1);
        int[] due = {0, 0x04, 0xf0, 0x03, 0x08};
        for (int status = 0; status < 5; status++) {
            Check.due("readings of status " + status, x.readings(0, status), due[status]);
        }
        for (int reading = 0; reading < 8; reading++) {
            int[] each = {3, 3, 1, 4, 2, 2, 2, 2};
            Check.due("status by " + reading, x.status(0, reading), each[reading]);
        }
    }

    private static void p20Broken() {
        WellPromises x = promised("p eat w 2 4 1 each");
        for (int n : WILD) {
            Check.due("reading " + n, x.broken(0, n), -1);
            Check.due("promise " + n, x.broken(n, 0), -1);
        }
        Check.due("not said", x.broken(0, 0), -1);
        x.hours(5);
        x.say(0, 0);
        x.hours(7);
        Check.due("in its last hour not yet", x.broken(0, 0), -1);
        Check.due("without that it is", x.broken(0, 1), 1);
        x.act(0, 0);
        x.hours(8);
        Check.due("kept on day 1, not yet on 2", x.broken(0, 0), -1);
        x.hours(1);
        Check.due("broken on day 2", x.broken(0, 0), 2);
        x.hours(99);
        Check.due("the first one stays", x.broken(0, 0), 2);
    }

    private static void p21Breach() {
        WellPromises x = promised("p eat h 2 4 1 each unless bow");
        for (int n : WILD) {
            Check.due("all " + n, x.breach(0, n), -1);
            Check.due("promise " + n, x.breach(n, 0), -1);
            Check.due("promise by all " + n, x.breach(n, 1), -1);
        }
        x.hours(4);
        x.say(0, 0);
        Check.due("none yet", x.breach(0, 0), -1);
        Check.due("by all none yet", x.breach(0, 1), -1);
        x.act(1, 1);
        x.hours(1);
        Check.due("by its own unless on day 0", x.breach(0, 0), 0);
        Check.due("not by all", x.breach(0, 1), -1);
        x.hours(5);
        x.act(0, 0);
        x.hours(3);
        Check.due("by some yet day 0", x.breach(0, 0), 0);
        Check.due("near by 4 is kept", x.breach(0, 1), -1);
        x.hours(7);
        Check.due("in the window of day 2", x.breach(0, 1), -1);
        x.hours(1);
        Check.due("the last of the first ones", x.breach(0, 1), 2);
        Check.due("by 0", x.broken(0, 0), 1);
        Check.due("another all then", x.breach(0, 2), -1);
        Check.due("all below then", x.breach(0, -1), -1);
    }

    private static void p22Asks() {
        WellPromises x = promised("p eat w 2 4 3 unless bow");
        for (int n : WILD) {
            Check.due("reading " + n, x.asks(0, n), -1);
            Check.due("promise " + n, x.asks(n, 0), -1);
        }
        Check.due("not said", x.asks(0, 0), -1);
        x.say(0, 0);
        Check.due("all three", x.asks(0, 0), 3);
        x.act(0, 0);
        Check.due("ahead of the window nothing counts", x.asks(0, 0), 3);
        x.hours(1);
        x.act(0, 1);
        Check.due("let off asks all the same", x.asks(0, 0), 3);
        x.hours(2);
        x.act(0, 0);
        Check.due("two", x.asks(0, 0), 2);
        x.hours(1);
        x.act(0, 0);
        Check.due("one", x.asks(0, 0), 1);
        Check.due("two without TILL", x.asks(0, 1), 2);
        x.hours(1);
        x.act(0, 0);
        Check.due("behind the window nothing counts", x.asks(0, 0), 1);
        x.hours(3);
        Check.due("not due on the next day", x.asks(0, 0), -1);
        x = promised("p eat w 2 4 1");
        x.go(0, 1);
        x.hours(1);
        x.go(0, 2);
        x.say(0, 0);
        Check.due("not bound", x.asks(0, 0), -1);
        x = promised("p eat w 2 4 2 each");
        x.hours(5);
        x.say(0, 0);
        Check.due("each, not today", x.asks(0, 0), -1);
        x.hours(3);
        for (int day = 1; day < 20; day++) {
            Check.due("each, day " + day, x.asks(0, 0), 2);
            x.hours(8);
        }
        Check.due("behind all days", x.asks(0, 0), -1);
    }
}
