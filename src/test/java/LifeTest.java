import java.util.NoSuchElementException;

/** Promises 6 to 17: what was told, what is so, going, doing, saying, HOURS, undoing. */
public final class LifeTest {
    private static final String HOUSE = "hours 8;place w;place h;place t;place far;way w h;way h t;frog h;frog h;"
        + "person p w;person q h;deed eat;deed bow;"
        + "promise x p eat t 2 4 1;promise y p bow h 1 3 2 each unless eat;promise z q eat h 0 7 3;";

    public static void main(String[] args) {
        promises();
        persons();
        waysAndFrogs();
        now();
        going();
        doing();
        manyDeeds();
        saying();
        hours();
        done();
        undo();
        undoKeepsEight();
        undoAndHouse();
        Check.done("LifeTest");
    }

    private static void promises() {
        WellPromises x = Check.with(HOUSE);
        int[] second = {0, 1, 1, 1, 3, 2, 1, 0, -1, 0};
        for (int what = 0; what < second.length; what++) {
            Check.due("promise 1 " + what, x.promise(1, what), second[what]);
        }
        Check.due("promise 2's place", x.promise(2, 2), 1);
        Check.due("promise 2's person", x.promise(2, 0), 1);
        Check.due("no unless", x.promise(0, 7), -1);
        throwing(x, -1, 0);
        throwing(x, 3, 0);
        throwing(x, 0, -1);
        throwing(x, 0, 10);
        throwing(x, Integer.MAX_VALUE, 8);
        throwing(x, 0, Integer.MIN_VALUE);
        x.hours(9);
        x.say(0, 1);
        Check.due("when it was said", x.promise(1, 8), 9);
        Check.due("unheard", x.promise(1, 9), 0);
        x.say(1, 2);
        Check.due("heard", x.promise(2, 9), 1);
    }

    private static void throwing(WellPromises x, int p, int what) {
        boolean threw = false;
        try {
            x.promise(p, what);
        } catch (NoSuchElementException e) {
            threw = true;
        }
        Check.due("promise(" + p + ", " + what + ") throws", threw, true);
    }

    private static void persons() {
        WellPromises x = Check.with(HOUSE);
        Check.due("place of p", x.person(0, 0), 0);
        Check.due("place of q", x.person(1, 0), 1);
        Check.due("no such person", x.person(2, 0), -1);
        Check.due("person below", x.person(-1, 0), -1);
        Check.due("no such what", x.person(0, 4), -1);
        Check.due("what below", x.person(0, -1), -1);
        x.go(0, 1);
        x.go(1, 2);
        x.hours(1);
        x.act(0, 1);
        x.go(1, 1);
        x.hours(1);
        x.act(1, 0);
        x.hours(1);
        x.act(0, 1);
        Check.due("place then", x.person(0, 0), 1);
        Check.due("busy", x.person(0, 1), 1);
        Check.due("not busy", x.person(1, 1), 0);
        Check.due("deeds", x.person(0, 2), 2);
        Check.due("goings", x.person(0, 3), 1);
        Check.due("deeds of q", x.person(1, 2), 1);
        Check.due("goings of q", x.person(1, 3), 2);
    }

    private static void waysAndFrogs() {
        WellPromises x = Check.with(HOUSE);
        int[][] steps = {{0, 1, 2, -1}, {1, 0, 1, -1}, {2, 1, 0, -1}, {-1, -1, -1, 0}};
        for (int a = 0; a < 4; a++) {
            for (int b = 0; b < 4; b++) {
                Check.due("way " + a + " " + b, x.way(a, b), steps[a][b]);
            }
        }
        Check.due("way from none", x.way(4, 0), -1);
        Check.due("way to none", x.way(0, 4), -1);
        Check.due("way below", x.way(-1, 0), -1);
        Check.due("frog 0", x.frog(0), 1);
        Check.due("frog 1", x.frog(1), 1);
        Check.due("frog 2", x.frog(2), -1);
        Check.due("frog below", x.frog(-1), -1);
        WellPromises row = Check.with("place a;place b;place c;place e;place f;place g;place h;place i;"
            + "way a b;way b c;way c e;way e f;way f g;way g h;way h i;");
        Check.due("seven steps", row.way(0, 7), 7);
        Check.due("seven back", row.way(7, 0), 7);
        Check.due("from a ninth", row.way(8, 0), -1);
        Check.due("to a ninth", row.way(0, 8), -1);
        Check.due("to none below", row.way(0, -1), -1);
    }

    private static void now() {
        WellPromises x = Check.with(HOUSE);
        x.hours(19);
        x.act(0, 0);
        x.say(0, 0);
        x.say(1, 2);
        int[] so = {2, 3, 1, 2, 1, 0};
        for (int what = 0; what < so.length; what++) {
            Check.due("now " + what, x.now(what), so[what]);
        }
        Check.due("now 6", x.now(6), -1);
        Check.due("now below", x.now(-1), -1);
        x.hours(5);
        Check.due("broken now", x.now(5), 1);
    }

    private static void going() {
        WellPromises x = Check.with(HOUSE);
        Check.due("can go", x.whyGo(0, 1), 0);
        Check.due("to its own place", x.whyGo(0, 0), 2);
        Check.due("no way", x.go(0, 2), 2);
        Check.due("no such place", x.go(0, 4), -1);
        Check.due("place below", x.whyGo(0, -1), -1);
        Check.due("no such person", x.whyGo(2, 0), -1);
        Check.due("why changes nothing", x.person(0, 0), 0);
        Check.due("goes", x.go(0, 1), 0);
        Check.due("busy first", x.whyGo(0, 3), 1);
        Check.due("busy", x.go(0, 0), 1);
        x.hours(1);
        Check.due("goes back", x.go(0, 0), 0);
        for (int k = 0; k < 2; k++) {
            x.hours(99);
        }
        Check.due("over", x.now(0), 20);
        Check.due("no way first", x.go(0, 2), 2);
        Check.due("over then", x.go(0, 1), 3);
    }

    private static void doing() {
        WellPromises x = Check.with(HOUSE);
        Check.due("no such deed", x.act(0, 2), -1);
        Check.due("deed below", x.act(0, -1), -1);
        Check.due("no such person", x.act(2, 0), -1);
        Check.due("does", x.act(0, 1), 0);
        Check.due("busy", x.act(0, 0), 1);
        Check.due("busy for going", x.go(0, 1), 1);
        Check.due("another one can", x.act(1, 0), 0);
        x.hours(99);
        x.hours(99);
        Check.due("over", x.act(0, 0), 3);
    }

    private static void manyDeeds() {
        WellPromises x = Check.with("hours 4;place w;person a w;person b w;person c w;person e w;deed d;");
        for (int k = 0; k < 80; k++) {
            Check.due("deed " + k, x.act(k % 4, 0), 0);
            if (k % 4 == 3 && k < 79) {
                x.hours(1);
            }
        }
        Check.due("busy ahead of many", x.act(0, 0), 1);
        x.hours(1);
        Check.due("many", x.act(0, 0), 4);
        Check.due("deeds", x.now(2), 80);
        Check.due("the last deed", x.done(79, 1), 3);
        Check.due("none behind", x.done(80, 1), -1);
        x.hours(99);
        Check.due("over ahead of many", x.act(0, 0), 3);
        x.undo();
        Check.due("a deed many then", x.act(0, 0), 4);
        x.undo();
        Check.due("still busy", x.act(0, 0), 1);
        x.undo();
        Check.due("room again", x.act(3, 0), 0);
    }

    private static void saying() {
        WellPromises x = Check.with(HOUSE);
        Check.due("another one's", x.say(0, 2), 5);
        Check.due("no such promise", x.say(0, 3), -1);
        Check.due("promise below", x.say(0, -1), -1);
        Check.due("no such person", x.say(2, 0), -1);
        x.act(0, 0);
        Check.due("busy ones may", x.say(0, 0), 0);
        Check.due("two in an hour", x.say(0, 1), 0);
        Check.due("said already", x.say(0, 0), 6);
        Check.due("another one's first", x.say(1, 0), 5);
        x.hours(99);
        Check.due("said already later", x.say(0, 0), 6);
        x.hours(99);
        Check.due("over first", x.say(0, 0), 3);
        Check.due("over first for another one", x.say(0, 2), 3);
    }

    private static void hours() {
        WellPromises x = Check.with("hours 5;place w;person p w;deed d;");
        Check.due("none", x.hours(0), -1);
        Check.due("below", x.hours(-3), -1);
        Check.due("100", x.hours(100), -1);
        x.act(0, 0);
        Check.due("one", x.hours(1), 1);
        Check.due("not busy", x.person(0, 1), 0);
        Check.due("most", x.hours(98), 98);
        Check.due("day", x.now(0), 19);
        Check.due("hour", x.now(1), 4);
        Check.due("not so many", x.hours(2), 1);
        Check.due("all over", x.now(0), 20);
        Check.due("hour then", x.now(1), 0);
        Check.due("none left", x.hours(9), 0);
        Check.due("none left, not as told", x.hours(0), -1);
    }

    private static void done() {
        WellPromises x = Check.with(HOUSE);
        x.hours(10);
        x.act(1, 0);
        x.go(0, 1);
        x.hours(1);
        x.act(0, 1);
        int[][] deeds = {{10, 1, 0, 1}, {11, 0, 1, 1}};
        for (int k = 0; k < 2; k++) {
            for (int what = 0; what < 4; what++) {
                Check.due("done " + k + " " + what, x.done(k, what), deeds[k][what]);
            }
        }
        Check.due("done 2", x.done(2, 0), -1);
        Check.due("done below", x.done(-1, 0), -1);
        Check.due("what 4", x.done(0, 4), -1);
        Check.due("what below", x.done(0, -1), -1);
    }

    private static void undo() {
        WellPromises x = Check.with(HOUSE);
        Check.due("none", x.undo(), -1);
        x.go(0, 1);
        x.go(0, 0);
        x.say(0, 1);
        x.say(0, 1);
        x.act(1, 0);
        x.hours(3);
        x.hours(0);
        x.drawn(2, 7);
        Check.tape(x, "hour 2;p does eat;");
        x.daybook(1);
        Check.due("undo daybook", x.undo(), 5);
        Check.due("time behind drawn", x.now(1), 5);
        Check.due("undo drawn", x.undo(), 4);
        Check.due("time behind hours", x.now(1), 3);
        Check.due("undo hours", x.undo(), 3);
        Check.due("time", x.now(1), 0);
        Check.due("busy again", x.person(1, 1), 1);
        Check.due("undo act", x.undo(), 2);
        Check.due("deeds", x.now(2), 0);
        Check.due("done 0", x.done(0, 0), -1);
        Check.due("said yet", x.promise(1, 8), 0);
        Check.due("undo say", x.undo(), 1);
        Check.due("unsaid", x.promise(1, 8), -1);
        Check.due("unbound", x.promise(1, 9), 0);
        Check.due("place yet", x.person(0, 0), 1);
        Check.due("undo go", x.undo(), 0);
        Check.due("place", x.person(0, 0), 0);
        Check.due("goings", x.person(0, 3), 0);
        Check.due("not busy", x.person(0, 1), 0);
        Check.due("none more", x.undo(), -1);
        Check.tape(x, "p goes h;");
        x.daybook(0);
        Check.due("a judged daybook is not kept", x.undo(), -1);
    }

    private static void undoKeepsEight() {
        WellPromises x = Check.with(HOUSE);
        for (int k = 0; k < 11; k++) {
            x.hours(k + 1);
        }
        for (int k = 7; k >= 0; k--) {
            Check.due("undo to " + k, x.undo(), k);
            int time = 8 * x.now(0) + x.now(1);
            int last = k + 3;
            Check.due("time " + k, time, last * (last + 1) / 2);
        }
        Check.due("no ninth", x.undo(), -1);
        x.hours(1);
        Check.due("one again", x.undo(), 0);
    }

    private static void undoAndHouse() {
        WellPromises x = Check.with(HOUSE);
        x.hours(5);
        x.say(0, 0);
        Check.house(x, HOUSE);
        Check.due("a new house has nothing to undo", x.undo(), -1);
        Check.due("its time", x.now(1), 0);
        Check.due("nothing is said", x.now(3), 0);
        x.hours(99);
        x.hours(99);
        x.hours(99);
        Check.due("the hours that were 0 are not kept", x.undo(), 1);
        Check.due("over no more", x.now(0), 12);
    }
}
