/** Promises 18 to 23, and 33 and 34: STATUS by READINGS, what is broken when, what is asked, WINDOWS. */
public final class JudgeTest {
    private static final String PEOPLE = "hours 8;place w;place h;place t;way w h;way h t;frog w;person p w;person q h;"
        + "deed eat;deed bow;";

    public static void main(String[] args) {
        notBound();
        keptInWindow();
        dueNextDay();
        deedInTheHourOfSaying();
        times();
        letOff();
        letOffFirstKeptThen();
        withoutTill();
        emptyWindow();
        emptyWindowAtMidnight();
        nearPlaces();
        ownUnless();
        each();
        beyondTheHours();
        behindTheLastDay();
        breach();
        asks();
        agree();
        windows();
        noSuchOnes();
        Check.done("JudgeTest");
    }

    private static WellPromises promised(String terms) {
        return Check.with(PEOPLE + "promise x " + terms + ";");
    }

    private static void act(WellPromises x, int p, int deed, int hours) {
        Check.due("act", x.act(p, deed), 0);
        x.hours(hours);
    }

    private static void notBound() {
        WellPromises x = promised("q eat h 1 3 1");
        Check.due("not said", x.status(0, 0), 0);
        x.say(1, 0);
        x.hours(8);
        Check.due("said where no frog is", x.status(0, 0), 0);
        Check.due("readings", x.readings(0, 0), 255);
        Check.due("not broken", x.broken(0, 0), -1);
        Check.due("no breach", x.breach(0, 0), -1);
        Check.due("asks nothing", x.asks(0, 0), -1);
        Check.due("nothing broken", x.now(5), 0);
    }

    private static void keptInWindow() {
        WellPromises x = promised("p eat w 2 4 1");
        x.say(0, 0);
        Check.due("open", x.status(0, 0), 1);
        x.hours(1);
        act(x, 0, 0, 1);
        Check.due("ahead of the window", x.status(0, 0), 1);
        x.hours(2);
        Check.due("in the last hour", x.status(0, 0), 1);
        Check.due("broken without TILL", x.status(0, 1), 4);
        act(x, 0, 0, 0);
        Check.due("kept", x.status(0, 0), 2);
        Check.due("kept by", x.readings(0, 2), 0x55);
        Check.due("broken by", x.readings(0, 4), 0xaa);
        x.hours(99);
        Check.due("kept for good", x.status(0, 0), 2);
        x = promised("p eat w 2 4 1");
        x.say(0, 0);
        x.hours(2);
        act(x, 0, 1, 3);
        Check.due("another deed", x.status(0, 0), 4);
        x = promised("p eat w 2 4 1");
        x.say(0, 0);
        x.hours(5);
        act(x, 0, 0, 1);
        Check.due("behind the window", x.status(0, 0), 4);
        x = promised("p eat h 2 4 1");
        x.say(0, 0);
        x.hours(3);
        act(x, 1, 0, 2);
        Check.due("another person", x.status(0, 0), 4);
    }

    private static void dueNextDay() {
        WellPromises x = promised("p eat w 2 4 1");
        x.hours(4);
        x.say(0, 0);
        Check.due("due today", x.asks(0, 0), 1);
        Check.due("not by 1", x.asks(0, 1), -1);
        x.hours(1);
        Check.due("broken today", x.broken(0, 0), 0);
        Check.due("not yet by 1", x.status(0, 1), 1);
        x.hours(7);
        Check.due("broken by 1 the next day", x.broken(0, 1), 1);
        x = promised("p eat w 2 4 1");
        x.hours(5);
        x.say(0, 0);
        Check.due("not due today", x.asks(0, 0), -1);
        x.hours(5);
        Check.due("due the next day", x.asks(0, 0), 1);
        Check.due("open", x.status(0, 0), 1);
        act(x, 0, 0, 1);
        Check.due("kept the next day", x.status(0, 0), 2);
        Check.due("asks 0", x.asks(0, 0), 0);
        x.hours(8);
        Check.due("asks no more", x.asks(0, 0), -1);
    }

    private static void deedInTheHourOfSaying() {
        WellPromises x = promised("p eat w 2 4 1");
        x.hours(2);
        x.act(0, 0);
        x.say(0, 0);
        Check.due("the hour of its saying counts", x.status(0, 0), 2);
        x = promised("p eat w 2 4 1 unless bow");
        x.hours(2);
        act(x, 0, 0, 1);
        x.act(0, 1);
        x.hours(1);
        x.say(0, 0);
        Check.due("hours ahead of its saying don't", x.status(0, 0), 1);
    }

    private static void times() {
        WellPromises x = promised("p eat w 2 6 3");
        x.say(0, 0);
        x.hours(2);
        for (int k = 0; k < 3; k++) {
            Check.due("asks", x.asks(0, 0), 3 - k);
            Check.due("open yet", x.status(0, 0), 1);
            act(x, 0, 0, 1);
        }
        Check.due("asks 0", x.asks(0, 0), 0);
        Check.due("kept", x.status(0, 0), 2);
        act(x, 0, 0, 1);
        Check.due("asks not below 0", x.asks(0, 0), 0);
    }

    private static void letOff() {
        WellPromises x = promised("p eat w 2 4 1 unless bow");
        x.say(0, 0);
        act(x, 1, 1, 1);
        Check.due("let off", x.status(0, 0), 3);
        Check.due("not by its own", x.status(0, 2), 1);
        Check.due("let off by", x.readings(0, 3), 0x33);
        x.hours(4);
        Check.due("let off yet", x.status(0, 0), 3);
        Check.due("broken by 2", x.status(0, 2), 4);
        x = promised("p eat w 2 4 1 unless bow");
        x.say(0, 0);
        x.hours(4);
        act(x, 1, 1, 1);
        Check.due("in the last hour", x.status(0, 0), 3);
        Check.due("behind it by 1", x.status(0, 1), 4);
        x = promised("p eat w 2 4 1 unless bow");
        x.say(0, 0);
        x.hours(5);
        act(x, 1, 1, 1);
        Check.due("behind the window", x.status(0, 0), 4);
        x = promised("p eat w 2 4 1 unless bow");
        x.hours(5);
        x.say(0, 0);
        act(x, 1, 1, 1);
        Check.due("on the day before", x.status(0, 0), 1);
        x.hours(7);
        Check.due("broken then", x.broken(0, 0), 1);
    }

    private static void letOffFirstKeptThen() {
        WellPromises x = promised("p eat w 2 4 1 unless bow");
        x.say(0, 0);
        act(x, 0, 1, 2);
        Check.due("let off", x.status(0, 0), 3);
        x.act(0, 0);
        Check.due("kept counts first", x.status(0, 0), 2);
        x = promised("p eat w 2 4 1 unless eat");
        x.say(0, 0);
        x.hours(2);
        x.act(0, 0);
        Check.due("one deed is both", x.status(0, 0), 2);
    }

    private static void withoutTill() {
        WellPromises x = promised("p eat w 2 4 1");
        x.say(0, 0);
        x.hours(3);
        Check.due("in the last hour by 1", x.status(0, 1), 1);
        x.act(0, 0);
        Check.due("kept by 1", x.status(0, 1), 2);
    }

    private static void emptyWindow() {
        WellPromises x = promised("p eat w 3 3 1 unless bow");
        x.hours(2);
        x.say(0, 0);
        Check.due("due today", x.asks(0, 1), 1);
        Check.due("open", x.status(0, 1), 1);
        act(x, 0, 1, 1);
        Check.due("let off in the hour ahead", x.status(0, 1), 3);
        x = promised("p eat w 3 3 1 unless bow");
        x.say(0, 0);
        x.hours(3);
        Check.due("over behind the hour ahead", x.status(0, 1), 4);
        x.act(0, 0);
        Check.due("kept in no hour", x.status(0, 1), 4);
        Check.due("kept by 0", x.status(0, 0), 2);
        x = promised("p eat w 3 3 1");
        x.hours(3);
        x.say(0, 0);
        Check.due("said at FROM: the next day", x.asks(0, 1), -1);
        x.hours(8);
        Check.due("broken the next day", x.broken(0, 1), 1);
    }

    private static void emptyWindowAtMidnight() {
        WellPromises x = promised("p eat w 0 0 1 unless bow");
        x.say(0, 0);
        act(x, 0, 1, 7);
        Check.due("open till the day's end", x.status(0, 1), 1);
        Check.due("let off by 0", x.status(0, 0), 3);
        x.hours(1);
        Check.due("broken as the next day begins", x.status(0, 1), 4);
        Check.due("on that day", x.broken(0, 1), 1);
        x.act(0, 1);
        Check.due("nothing lets off", x.status(0, 1), 4);
    }

    private static void nearPlaces() {
        WellPromises x = promised("p eat h 0 4 1");
        x.say(0, 0);
        x.act(0, 0);
        Check.due("not there", x.status(0, 0), 1);
        Check.due("near by 4", x.status(0, 4), 2);
        Check.due("asks by 4", x.asks(0, 4), 0);
        Check.due("asks by 0", x.asks(0, 0), 1);
        Check.due("kept by", x.readings(0, 2), 0xf0);
        x = promised("p eat t 0 4 1");
        x.say(0, 0);
        x.act(0, 0);
        Check.due("two steps are not near", x.status(0, 4), 1);
        x = promised("p eat w 0 4 1");
        x.say(0, 0);
        x.act(0, 0);
        Check.due("the place itself by 4", x.status(0, 4), 2);
    }

    private static void ownUnless() {
        WellPromises x = promised("p eat h 0 4 1 unless bow");
        x.say(0, 0);
        x.act(0, 1);
        Check.due("its own deed, wherever", x.readings(0, 3), 255);
    }

    private static void each() {
        WellPromises x = promised("p eat w 2 4 1 each unless bow");
        x.hours(6);
        x.say(0, 0);
        Check.due("not today", x.asks(0, 0), -1);
        x.hours(4);
        act(x, 0, 0, 1);
        Check.due("open, though kept", x.status(0, 0), 1);
        Check.due("asks 0", x.asks(0, 0), 0);
        x.hours(7);
        Check.due("asks again", x.asks(0, 0), 1);
        act(x, 0, 1, 1);
        Check.due("open, though let off", x.status(0, 0), 1);
        Check.due("asks though let off", x.asks(0, 0), 1);
        x.hours(9);
        Check.due("day 3, its last hour", x.status(0, 0), 1);
        Check.due("none broken", x.broken(0, 0), -1);
        x.hours(1);
        Check.due("broken", x.status(0, 0), 4);
        Check.due("on day 3", x.broken(0, 0), 3);
        x.hours(8);
        Check.due("the first day yet", x.broken(0, 0), 3);
        x = promised("p eat w 0 7 1 each");
        x.say(0, 0);
        for (int day = 0; day < 20; day++) {
            act(x, 0, 0, 8);
        }
        Check.due("open behind all days", x.status(0, 0), 1);
        Check.due("asks nothing behind all days", x.asks(0, 0), -1);
    }

    private static void beyondTheHours() {
        WellPromises x = promised("p eat w 10 12 1 unless bow");
        x.hours(7);
        x.say(0, 0);
        Check.due("due today", x.asks(0, 0), 1);
        x.act(0, 0);
        Check.due("open at the day's end", x.status(0, 0), 1);
        x.hours(1);
        Check.due("over then", x.readings(0, 4), 255);
        x = promised("p eat w 10 10 1 unless bow");
        x.hours(7);
        x.say(0, 0);
        x.act(0, 1);
        Check.due("let off at the day's end", x.readings(0, 3), 255);
        x = promised("p eat w 6 23 1");
        x.say(0, 0);
        x.hours(7);
        x.act(0, 0);
        Check.due("the last hour that there is", x.readings(0, 2), 255);
    }

    private static void behindTheLastDay() {
        WellPromises x = promised("p eat w 0 0 1");
        x.hours(99);
        x.hours(54);
        x.say(0, 0);
        Check.due("due on no day", x.asks(0, 0), -1);
        x.hours(99);
        Check.due("all over", x.now(0), 20);
        Check.due("open for good", x.readings(0, 1), 255);
        Check.due("not broken", x.breach(0, 0), -1);
        Check.due("asks nothing", x.asks(0, 0), -1);
        x = promised("p eat w 2 7 1 each");
        x.hours(99);
        x.hours(60);
        x.say(0, 0);
        x.hours(1);
        Check.due("broken on the last day", x.broken(0, 0), 19);
        Check.due("due on none by 1", x.status(0, 1), 1);
    }

    private static void breach() {
        WellPromises x = promised("p eat h 3 3 1 unless bow");
        x.hours(3);
        x.say(0, 0);
        x.hours(1);
        Check.due("some", x.breach(0, 0), 0);
        Check.due("not all", x.breach(0, 1), -1);
        x.hours(7);
        Check.due("all, the last of the first", x.breach(0, 1), 1);
        Check.due("some yet", x.breach(0, 0), 0);
        Check.due("another all", x.breach(0, 2), -1);
        Check.due("all below", x.breach(0, -1), -1);
    }

    private static void asks() {
        WellPromises x = promised("p eat w 2 4 3");
        x.say(0, 0);
        x.hours(5);
        Check.due("asks though it is over", x.asks(0, 0), 3);
    }

    private static void agree() {
        WellPromises x = promised("p eat h 3 3 1 unless bow");
        Check.due("all agree", x.agree(), 255);
        x.say(0, 0);
        x.act(1, 1);
        Check.due("bit 2 differs", x.agree(), 0x33);
        x.hours(3);
        Check.due("1 is let off, too", x.agree(), 0x33);
        x = promised("p eat h 3 3 1");
        x.say(0, 0);
        x.hours(3);
        Check.due("bit 1 differs", x.agree(), 0x55);
        x.act(0, 0);
        Check.due("bits 1 and 4 differ", x.agree(), 0x05);
    }

    private static void windows() {
        WellPromises x = Check.with(PEOPLE);
        Check.due("all fit ahead of a day", x.windows(0, 0, 0), 36);
        Check.due("the first one", x.shortest(0, 0, 0), 0);
        Check.due("the first one of no person", x.shortest(2, 0, 0), -1);
        Check.due("the first one of no deed", x.shortest(0, 2, 0), -1);
        Check.due("the first one in no place", x.shortest(0, 0, 3), -1);
        x.hours(2);
        act(x, 0, 0, 3);
        act(x, 0, 0, 1);
        Check.due("a day that is not over", x.windows(0, 0, 0), 36);
        x.hours(2);
        Check.due("2 or 5", x.windows(0, 0, 0), 18 + 18 - 9);
        Check.due("the earliest", x.shortest(0, 0, 0), 202);
        Check.due("another place", x.windows(0, 0, 1), 0);
        Check.due("another deed", x.windows(0, 1, 0), 0);
        Check.due("another person", x.windows(1, 0, 0), 0);
        Check.due("no shortest", x.shortest(1, 0, 0), -1);
        x.hours(6);
        act(x, 0, 0, 2);
        Check.due("2 and 6, or 5 and 6, and more", x.windows(0, 0, 0), 6 * 2);
        Check.due("the shortest", x.shortest(0, 0, 0), 506);
        Check.due("no such deed", x.windows(0, 2, 0), -1);
        Check.due("no such place", x.windows(0, 0, 3), -1);
        Check.due("no such person", x.windows(2, 0, 0), -1);
        Check.due("shortest of no deed", x.shortest(0, -1, 0), -1);
        Check.due("shortest of no place", x.shortest(0, 0, -1), -1);
        Check.due("shortest of no person", x.shortest(-1, 0, 0), -1);
        WellPromises whole = Check.with("place w;person p w;deed d;");
        whole.hours(23);
        whole.act(0, 0);
        whole.hours(1);
        Check.due("the last hour of 24", whole.windows(0, 0, 0), 24);
        Check.due("its shortest", whole.shortest(0, 0, 0), 2323);
    }

    private static void noSuchOnes() {
        WellPromises x = promised("p eat w 2 4 1");
        int[] bad = {-1, 1, 8, Integer.MAX_VALUE, Integer.MIN_VALUE};
        for (int p : bad) {
            Check.due("status of none", x.status(p, 0), -1);
            Check.due("readings of none", x.readings(p, 0), -1);
            Check.due("broken of none", x.broken(p, 0), -1);
            Check.due("breach of none", x.breach(p, 0), -1);
            Check.due("asks of none", x.asks(p, 0), -1);
        }
        x.say(0, 0);
        x.hours(8);
        int[] no = {-1, 8, Integer.MAX_VALUE, Integer.MIN_VALUE};
        for (int reading : no) {
            Check.due("no reading for status", x.status(0, reading), -1);
            Check.due("no reading for broken", x.broken(0, reading), -1);
            Check.due("no reading for asks", x.asks(0, reading), -1);
        }
        Check.due("no status 5", x.readings(0, 5), -1);
        Check.due("no status below", x.readings(0, -1), -1);
        Check.due("status 4", x.readings(0, 4), 255);
    }
}
