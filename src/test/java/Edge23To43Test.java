/** The boundary cases of promises 23 to 43, call by call: too small, too large, empty, full, refused. */
public final class Edge23To43Test {
    private static final int[] WILD = {-1, -2, 8, 9, 31, 32, 33, 64, Integer.MAX_VALUE, Integer.MIN_VALUE};
    private static final String PEOPLE = "hours 8;place w;place h;place t;place far;way w h;way h t;frog w;frog h;person p w;"
        + "person q h;deed eat;deed bow;";
    private static final String HOUSE = PEOPLE
        + "promise x p eat t 2 4 1;promise y p bow h 1 3 1 each unless eat;promise z q eat h 0 7 2;vow x y;vow y x;";
    private static final String EIGHT = "place w;frog w;person p w;deed d;promise a p d w 1 2 1;promise b p d w 1 2 1;"
        + "promise c p d w 1 2 1;promise e p d w 1 2 1;promise f p d w 1 2 1;promise g p d w 1 2 1;promise h p d w 1 2 1;"
        + "promise i p d w 1 2 1;";

    public static void main(String[] args) {
        p23Agree();
        p24Plan();
        p24FourAtMost();
        p24FullDay();
        p24OneHourShort();
        p24TheOtherPerson();
        p24TheLastHour();
        p25Step();
        p26Quarrel();
        p26SmallestThenLeast();
        p27Chain();
        p28Rings();
        p29Roots();
        p30Knows();
        p31Heard();
        p32Dry();
        p33Windows();
        p34Shortest();
        p35Drawn();
        p35OneOfEach();
        p36Odds();
        p37Daybook();
        p37Wrong();
        p38Booked();
        p39Sentence();
        p40Said();
        p40ByReadingZero();
        p41Image();
        p42Restore();
        p43Count();
        Check.done("Edge23To43Test");
    }

    private static WellPromises promised(String terms) {
        return Check.with(PEOPLE + "promise x " + terms + ";");
    }

    private static void p23Agree() {
        WellPromises x = Check.with(PEOPLE);
        Check.due("no promises", x.agree(), 255);
        x = Check.with(PEOPLE + "promise x p eat w 3 3 1;promise y p bow h 0 7 1 unless eat;promise z p bow t 0 7 1;");
        Check.due("none is said", x.agree(), 255);
        x.say(0, 0);
        x.say(0, 1);
        x.say(0, 2);
        Check.due("all are open", x.agree(), 255);
        x.act(1, 0);
        Check.due("the second one differs by 2", x.agree(), 0x33);
        x.hours(3);
        Check.due("the first one by 1 besides", x.agree(), 0x11);
        x.go(0, 1);
        x.hours(1);
        x.act(0, 1);
        Check.due("the third one by 4, the first one by none, the second one is kept by all", x.agree(), 0x0f);
        x.hours(4);
        Check.due("on the next day as then", x.agree(), 0x0f);
        x = Check.with(EIGHT);
        for (int k = 0; k < 8; k++) {
            x.say(0, k);
        }
        Check.due("eight that are open", x.agree(), 255);
        x.hours(2);
        Check.due("eight by bit 1", x.agree(), 0x55);
        Check.due("none is broken by reading 0", x.now(5), 0);
        x.hours(1);
        Check.due("eight that are broken", x.agree(), 255);
        Check.due("all eight by reading 0", x.now(5), 8);
    }

    private static void steps(String name, WellPromises x, int... due) {
        for (int hour = 0; hour < due.length; hour++) {
            Check.due(name + ": step " + hour, x.step(hour), due[hour]);
        }
        Check.due(name + ": step behind", x.step(due.length), -1);
    }

    private static void p24Plan() {
        WellPromises x = Check.with(HOUSE);
        for (int n : WILD) {
            Check.due("person " + n, x.plan(n), -1);
        }
        Check.due("no third person", x.plan(2), -1);
        Check.due("no step ahead of any", x.step(0), -1);
        Check.due("nothing is due", x.plan(0), 0);
        x.say(0, 0);
        x.hours(2);
        Check.due("just in time", x.plan(0), 2);
        steps("just in time", x, -1, -1, 101, 102, 200, 0, 0, 0);
        x.act(0, 1);
        Check.due("too late by this hour", x.plan(0), -1);
        x.undo();
        x.go(0, 1);
        Check.due("on its way", x.plan(0), 1);
        steps("on its way", x, -1, -1, 0, 102, 200, 0, 0, 0);
        x = promised("p eat far 0 7 1");
        x.say(0, 0);
        Check.due("a place without a way", x.plan(0), -1);
        x = promised("p eat w 8 9 1");
        x.say(0, 0);
        Check.due("a window behind the day", x.plan(0), -1);
        x = promised("p eat w 7 9 1");
        x.say(0, 0);
        Check.due("its one hour", x.plan(0), 0);
        steps("its one hour", x, 0, 0, 0, 0, 0, 0, 0, 200);
        x = promised("p eat w 7 9 2");
        x.say(0, 0);
        Check.due("one hour for two deeds", x.plan(0), -1);
        x = promised("p eat w 2 3 1");
        x.hours(4);
        x.say(0, 0);
        Check.due("not due today", x.plan(0), 0);
        x.hours(4);
        Check.due("due on the next day", x.plan(0), 0);
        steps("due on the next day", x, 0, 0, 0, 200, 0, 0, 0, 0);
        x.hours(8);
        Check.due("broken and no more due", x.plan(0), 0);
        steps("no more due", x, 0, 0, 0, 0, 0, 0, 0, 0);
    }

    private static void p24FourAtMost() {
        WellPromises x = Check.with(EIGHT.replace("promise h p d w 1 2 1", "promise h p d w 0 0 1"));
        for (int k = 0; k < 4; k++) {
            x.say(0, k);
        }
        Check.due("four", x.plan(0), 0);
        Check.due("four are no quarrel", x.quarrel(0), 0);
        x.say(0, 4);
        Check.due("five", x.plan(0), -1);
        Check.due("five, no quarrel told", x.quarrel(0), -1);
        x.undo();
        x.hours(1);
        x.say(0, 6);
        Check.due("a fifth that is not due today", x.plan(0), 0);
        x.hours(2);
        x.say(0, 5);
        Check.due("a sixth, too, and too late for four", x.plan(0), -1);
        Check.due("the least one of them", x.quarrel(0), 1);
        x.hours(21);
        Check.due("the next day has two", x.plan(0), 0);
        Check.due("step", x.step(0), 200);
        Check.due("and again", x.step(2), 200);
        x = Check.with("place w;place h;frog h;person p w;deed d;promise a p d w 0 23 1;promise b p d w 0 23 1;"
            + "promise c p d w 0 23 1;promise e p d w 0 23 1;promise f p d w 0 23 1;");
        for (int k = 0; k < 5; k++) {
            x.say(0, k);
        }
        Check.due("five unheard ones", x.plan(0), 0);
        Check.due("no quarrel of unheard ones", x.quarrel(0), 0);
    }

    /** The most of all: 24 HOURS, 8 PLACES, four PROMISES of three times each. */
    private static void p24FullDay() {
        WellPromises x = Check.with("place a;place b;place c;place e;place f;place g;place h;place i;way a b;way b c;way c e;"
            + "way e f;way f g;way g h;way h i;frog a;frog i;person o a;person p i;deed da;deed db;deed dc;deed de;deed df;deed dg;"
            + "promise s p dg i 0 23 3;promise t p df h 0 23 3;promise u p dg b 12 23 3;promise v p de a 0 23 3;");
        for (int k = 0; k < 4; k++) {
            x.say(1, k);
        }
        Check.due("seven goings", x.plan(1), 7);
        steps("seven goings", x, 0, 0, 0, 0, 0, 205, 205, 205, 106, 204, 204, 204, 105, 104, 103, 102, 101, 205, 205, 205, 100,
            203, 203, 203);
        for (int k = 0; k < 100; k++) {
            Check.due("again and again", x.plan(k % 2), k % 2 == 0 ? 0 : 7);
        }
    }

    /** Of four PROMISES one has as many HOURS as it asks for, or one less. */
    private static void p24OneHourShort() {
        for (int k = 0; k < 4; k++) {
            for (int times = 1; times <= 3; times++) {
                for (int others = 1; others <= 3; others++) {
                    WellPromises x = fourPromises(k, times, others, times);
                    Check.due("just enough for " + k, x.plan(0), 0);
                    Check.due("no quarrel", x.quarrel(0), 0);
                    Check.due("the last hours", x.step(24 - times), 200 + k);
                    Check.due("ahead of them another one", x.step(23 - times), 200 + (k == 3 ? 2 : 3));
                    x = fourPromises(k, times, others, times - 1);
                    Check.due("one hour short for " + k, x.plan(0), times == 1 ? 0 : -1);
                    Check.due("it alone can't be", x.quarrel(0), times == 1 ? 0 : 1 << k);
                }
            }
        }
    }

    private static WellPromises fourPromises(int k, int times, int others, int hours) {
        StringBuilder text = new StringBuilder("place w;frog w;person p w;deed a;deed b;deed c;deed e;");
        for (int n = 0; n < 4; n++) {
            int from = n == k ? Math.min(23, 24 - hours) : 0;
            text.append("promise x").append((char) ('a' + n)).append(" p ").append("abce".charAt(n)).append(" w ").append(from)
                .append(" 23 ").append(n == k ? times : others).append(';');
        }
        WellPromises x = Check.with(text.toString());
        for (int n = 0; n < 4; n++) {
            x.say(0, n);
        }
        return x;
    }

    private static void p24TheOtherPerson() {
        WellPromises x = Check.with("hours 4;place w;place h;place t;way w h;way h t;frog w;frog h;frog t;person a w;person b h;"
            + "person c t;deed d;deed g;promise x a d w 0 3 1;promise y b d w 0 3 1;promise z c g w 0 3 1;");
        for (int p = 0; p < 3; p++) {
            x.say(p, p);
        }
        Check.due("for the third", x.plan(2), 2);
        steps("for the third", x, 0, 101, 100, 201);
        Check.due("for the second", x.plan(1), 1);
        steps("for the second", x, 0, 0, 100, 200);
        Check.due("for the first", x.plan(0), 0);
        steps("for the first", x, 0, 0, 0, 200);
        x.act(1, 1);
        Check.due("who is busy stays", x.plan(1), 1);
        steps("who is busy stays", x, 0, 0, 100, 200);
        Check.due("another one is not busy", x.plan(2), 2);
        x.hours(2);
        Check.due("too far for the third", x.plan(2), -1);
        Check.due("its quarrel", x.quarrel(2), 4);
        Check.due("just in time for the second", x.plan(1), 1);
        Check.due("no quarrel of the second", x.quarrel(1), 0);
    }

    private static void p24TheLastHour() {
        WellPromises x = promised("p eat w 0 7 1");
        x.hours(7);
        x.say(0, 0);
        Check.due("in the day's last hour", x.plan(0), 0);
        steps("in the last hour", x, -1, -1, -1, -1, -1, -1, -1, 200);
        x.act(0, 1);
        Check.due("busy in it", x.plan(0), -1);
        x.undo();
        x.act(0, 0);
        Check.due("it was done in it", x.plan(0), 0);
        steps("it was done in it", x, -1, -1, -1, -1, -1, -1, -1, 0);
        x.hours(99);
        x.hours(53);
        Check.due("the last hour of all", x.plan(0), 0);
        x.hours(1);
        Check.due("all days are over", x.plan(0), -1);
        steps("the latest one stays", x, -1, -1, -1, -1, -1, -1, -1, 0);
    }

    private static void p25Step() {
        WellPromises x = Check.with(HOUSE);
        for (int hour = 0; hour < 24; hour++) {
            Check.due("ahead of any " + hour, x.step(hour), -1);
        }
        x.plan(2);
        x.quarrel(0);
        Check.due("a plan that was none is none", x.step(0), -1);
        x.say(0, 0);
        x.hours(1);
        x.plan(0);
        for (int n : WILD) {
            Check.due("step " + n, x.step(n), -1);
        }
        steps("a plan", x, -1, 0, 101, 102, 200, 0, 0, 0);
        x.go(0, 1);
        x.hours(9);
        x.undo();
        x.quarrel(0);
        x.quarrel(1);
        x.image(0);
        x.restore(0);
        steps("other calls leave it", x, -1, 0, 101, 102, 200, 0, 0, 0);
        x.hours(2);
        x.act(0, 0);
        x.hours(1);
        Check.due("no plan", x.plan(0), -1);
        steps("a plan that was none leaves it", x, -1, 0, 101, 102, 200, 0, 0, 0);
        Check.house(x, "hours 4;place w;person p w;");
        steps("a new house leaves it", x, -1, 0, 101, 102, 200, 0, 0, 0);
        x.hours(3);
        x.plan(0);
        steps("a shorter day", x, -1, -1, -1, 0);
    }

    private static void p26Quarrel() {
        WellPromises x = Check.with(HOUSE);
        for (int n : WILD) {
            Check.due("person " + n, x.quarrel(n), -1);
        }
        Check.due("no third person", x.quarrel(2), -1);
        Check.due("nothing is due", x.quarrel(0), 0);
        x.say(0, 0);
        Check.due("one that can be kept", x.quarrel(0), 0);
        x.hours(3);
        Check.due("one that can't", x.quarrel(0), 1);
        x.hours(5);
        Check.due("no more due", x.quarrel(0), 0);
        x.hours(99);
        x.hours(52);
        Check.due("the last hour of all", x.quarrel(0), 0);
        x.hours(1);
        Check.due("all days are over", x.quarrel(0), -1);
    }

    private static void p26SmallestThenLeast() {
        String house = "hours 6;place w;place h;frog w;person p w;person q w;deed d;deed g;deed k;deed m;"
            + "promise a q d w 0 0 1;promise b p d w 1 2 1;promise c p g w 1 2 1;promise e p k w 1 2 1;promise f p m w 1 2 1;";
        WellPromises x = Check.with(house);
        for (int k = 1; k < 5; k++) {
            x.say(0, k);
        }
        Check.due("three of four, the least", x.quarrel(0), 2 + 4 + 8);
        x = Check.with(house.replace("promise f p m w 1 2 1", "promise f p m w 1 1 2"));
        for (int k = 1; k < 5; k++) {
            x.say(0, k);
        }
        Check.due("one alone is smaller", x.quarrel(0), 16);
        x = Check.with(house.replace("promise f p m w 1 2 1", "promise f p m w 2 2 1").replace("promise e p k w 1 2 1", "promise e p k w 2 2 1"));
        for (int k = 1; k < 5; k++) {
            x.say(0, k);
        }
        Check.due("two are smaller", x.quarrel(0), 8 + 16);
        x = Check.with(house.replace("1 2 1", "1 3 1"));
        for (int k = 1; k < 5; k++) {
            x.say(0, k);
        }
        Check.due("all four", x.quarrel(0), 30);
        x.hours(1);
        x.act(0, 1);
        Check.due("what was done counts", x.plan(0), -1);
        x.undo();
        x.act(0, 0);
        x.hours(1);
        x.act(0, 2);
        x.hours(1);
        Check.due("of two that are left", x.quarrel(0), 4 + 16);
    }

    private static void p27Chain() {
        WellPromises x = Check.with(EIGHT);
        for (int n : WILD) {
            Check.due("promise " + n, x.chain(n), -1);
        }
        for (int p = 0; p < 8; p++) {
            Check.due("without vows " + p, x.chain(p), 1 << p);
        }
        x = Check.with(EIGHT + "vow a b;vow b c;vow c e;vow e f;vow f g;vow g h;vow h i;");
        for (int p = 0; p < 8; p++) {
            Check.due("all ahead of " + p, x.chain(p), (2 << p) - 1);
        }
        x = Check.with(EIGHT + "vow i h;vow h g;vow g f;vow f e;vow e c;vow c b;vow b a;");
        for (int p = 0; p < 8; p++) {
            Check.due("all behind " + p, x.chain(p), 255 & -(1 << p));
        }
        x = Check.with("place w;person p w;deed d;promise a p d w 1 2 1;");
        Check.due("one alone", x.chain(0), 1);
        Check.due("no second", x.chain(1), -1);
    }

    private static void p28Rings() {
        Check.due("no promises", Check.with("place w;").rings(), 0);
        Check.due("no vows", Check.with(EIGHT).rings(), 0);
        Check.due("a row", Check.with(EIGHT + "vow a b;vow b c;vow a c;").rings(), 0);
        Check.due("two", Check.with(EIGHT + "vow h i;vow i h;").rings(), 0xc0);
        Check.due("all eight", Check.with(EIGHT + "vow a b;vow b c;vow c e;vow e f;vow f g;vow g h;vow h i;vow i a;").rings(), 255);
        Check.due("those that only lead there are in none",
            Check.with(EIGHT + "vow a b;vow b c;vow c b;vow c e;").rings(), 6);
    }

    private static void p29Roots() {
        Check.due("no promises", Check.with("place w;").roots(), 0);
        Check.due("all eight", Check.with(EIGHT).roots(), 255);
        Check.due("the last of a row", Check.with(EIGHT + "vow a b;vow b c;vow c e;vow e f;vow f g;vow g h;vow h i;").roots(), 128);
        Check.due("the first of a row", Check.with(EIGHT + "vow i h;vow h g;vow g f;vow f e;vow e c;vow c b;vow b a;").roots(), 1);
        Check.due("the least of a ring",
            Check.with(EIGHT + "vow a b;vow b c;vow c e;vow e f;vow f g;vow g h;vow h i;vow i a;").roots(), 1);
        Check.due("the least of two rings", Check.with(EIGHT + "vow i h;vow h i;vow f g;vow g f;").roots(), 1 + 2 + 4 + 8 + 16 + 64);
        Check.due("fewest comes ahead of least", Check.with(EIGHT + "vow a i;vow b i;vow c i;vow e i;vow f i;vow g i;vow h i;").roots(), 128);
    }

    private static void p30Knows() {
        WellPromises x = Check.with("hours 4;place a;place b;place c;place e;place f;place g;place h;place i;way a b;way b c;way c e;"
            + "way e f;way f g;way g h;way h i;frog a;frog b;frog c;frog e;frog f;frog g;person p a;person q i;person r h;deed d;"
            + "promise x p d a 1 2 1;promise y q d a 1 2 1;promise z r d a 1 2 1;");
        for (int n : WILD) {
            Check.due("frog " + n, x.knows(n, 0), -1);
            Check.due("promise " + n, x.knows(0, n), -1);
        }
        Check.due("not said", x.knows(0, 0), -1);
        x.hours(5);
        x.say(0, 0);
        x.say(1, 1);
        x.say(2, 2);
        for (int f = 0; f < 6; f++) {
            Check.due("knows " + f, x.knows(f, 0), 5 + f);
            Check.due("never, unheard " + f, x.knows(f, 1), -1);
            Check.due("never, though a frog is near " + f, x.knows(f, 2), -1);
        }
        Check.due("no seventh frog", x.knows(6, 0), -1);
        Check.due("no fourth promise", x.knows(0, 3), -1);
        x = Check.with("place a;place b;place c;way a b;way b c;way a c;frog b;frog a;frog b;frog c;person p b;deed d;promise x p d a 1 2 1;");
        x.hours(2);
        x.say(0, 0);
        int[] due = {2, 3, 2, 3};
        for (int f = 0; f < due.length; f++) {
            Check.due("two in one place, two near " + f, x.knows(f, 0), due[f]);
        }
        x = Check.with("place a;place b;place c;way a b;way b c;frog a;frog c;person p a;deed d;promise x p d a 1 2 1;");
        x.say(0, 0);
        Check.due("over a dry place never", x.knows(1, 0), -1);
    }

    private static void p31Heard() {
        WellPromises x = Check.with("hours 4;place a;place b;place c;way a b;way b c;frog c;frog b;frog a;person p a;deed d;promise x p d a 1 2 1;");
        for (int n : WILD) {
            Check.due("promise " + n, x.heard(n), -1);
        }
        Check.due("no second promise", x.heard(1), -1);
        Check.due("not said", x.heard(0), 0);
        x.say(0, 0);
        int[] due = {4, 6, 7, 7};
        for (int hour = 0; hour < due.length; hour++) {
            Check.due("heard in hour " + hour, x.heard(0), due[hour]);
            x.hours(1);
        }
        x.undo();
        x.undo();
        x.undo();
        Check.due("hours undone", x.heard(0), 6);
        x = Check.with("hours 4;place a;place b;way a b;frog a;frog b;person p a;deed d;promise x p d a 1 2 1;");
        x.hours(79);
        x.say(0, 0);
        Check.due("in the last hour", x.heard(0), 1);
        x.hours(1);
        Check.due("behind it", x.heard(0), 3);
    }

    private static void p32Dry() {
        Check.due("no places", new WellPromises().dry(), 0);
        Check.due("no frogs", Check.with("place a;place b;").dry(), 3);
        Check.due("all have one", Check.with("place a;place b;frog b;frog a;").dry(), 0);
        Check.due("the last has one", Check.with("place a;place b;place c;place e;place f;place g;place h;place i;frog i;").dry(), 127);
        Check.due("two in the first", Check.with("place a;place b;place c;frog a;frog a;").dry(), 6);
        WellPromises x = Check.with(HOUSE);
        x.say(0, 0);
        x.hours(30);
        Check.due("whatever was said", x.dry(), 12);
    }

    private static void p33Windows() {
        for (int hours = 4; hours <= 24; hours++) {
            WellPromises x = Check.with("hours " + hours + ";place w;person p w;deed d;");
            int all = hours * (hours + 1) / 2;
            Check.due("no day is over, " + hours, x.windows(0, 0, 0), all);
            x.act(0, 0);
            x.hours(hours - 1);
            Check.due("in its last hour", x.windows(0, 0, 0), all);
            x.hours(1);
            Check.due("done in the first hour", x.windows(0, 0, 0), hours);
            x.hours(hours - 1);
            x.act(0, 0);
            Check.due("the second day is not over", x.windows(0, 0, 0), hours);
            x.hours(1);
            Check.due("done in the last one", x.windows(0, 0, 0), 1);
            Check.due("the whole day", x.shortest(0, 0, 0), hours - 1);
            x.hours(hours);
            Check.due("not done on the third", x.windows(0, 0, 0), 0);
            Check.due("no shortest", x.shortest(0, 0, 0), -1);
        }
        WellPromises x = Check.with(HOUSE);
        for (int n : WILD) {
            Check.due("person " + n, x.windows(n, 0, 0), -1);
            Check.due("deed " + n, x.windows(0, n, 0), -1);
            Check.due("place " + n, x.windows(0, 0, n), -1);
        }
        Check.due("no fifth place", x.windows(0, 0, 4), -1);
        x = Check.with("hours 4;place w;person p w;deed d;");
        x.hours(2);
        for (int day = 0; day < 20; day++) {
            x.act(0, 0);
            x.hours(day < 19 ? 4 : 2);
        }
        Check.due("all days are over", x.now(0), 20);
        Check.due("on all twenty", x.windows(0, 0, 0), 6);
        Check.due("the shortest on all", x.shortest(0, 0, 0), 202);
        x.undo();
        x.undo();
        x.hours(2);
        Check.due("not on the last one", x.windows(0, 0, 0), 0);
    }

    private static void p34Shortest() {
        WellPromises x = Check.with(HOUSE);
        for (int n : WILD) {
            Check.due("person " + n, x.shortest(n, 0, 0), -1);
            Check.due("deed " + n, x.shortest(0, n, 0), -1);
            Check.due("place " + n, x.shortest(0, 0, n), -1);
        }
        Check.due("no third deed", x.shortest(0, 2, 0), -1);
        Check.due("no day is over: the earliest hour", x.shortest(0, 1, 2), 0);
        x.hours(1);
        x.act(0, 0);
        x.act(1, 1);
        x.hours(5);
        x.act(0, 0);
        x.hours(2);
        Check.due("of two hours the earliest", x.shortest(0, 0, 0), 101);
        Check.due("the other one's, first asked", x.shortest(1, 1, 1), 101);
        Check.due("none", x.shortest(1, 1, 0), -1);
        Check.due("again", x.shortest(0, 0, 0), 101);
        x.hours(4);
        x.act(0, 0);
        x.hours(4);
        Check.due("4 to 6 is shorter than 1 to 4", x.shortest(0, 0, 0), 406);
    }

    private static void p35Drawn() {
        WellPromises x = Check.with(HOUSE);
        for (int n : new int[] {0, -1, 100, 101, Integer.MAX_VALUE, Integer.MIN_VALUE}) {
            Check.due("drawn " + n, x.drawn(n, 1), -1);
        }
        Check.due("refused ones change nothing", x.now(1), 0);
        Check.due("one", x.drawn(1, 1), 1);
        Check.due("99", x.drawn(99, Integer.MIN_VALUE), 99);
        Check.due("60 are left", x.drawn(99, Integer.MAX_VALUE), 60);
        Check.due("none is left", x.drawn(1, 1), 0);
        Check.due("all is over", x.now(0), 20);
        Check.due("three to undo", x.undo(), 2);
        x = Check.with("place w;deed d;");
        Check.due("no persons", x.drawn(1, 1), -1);
        Check.due("no hour went", x.now(1), 0);
        x.hours(1);
        Check.due("none was kept", x.undo(), 0);
        WellPromises y = Check.with("hours 24;place w;person a w;person b w;person c w;person e w;deed d;");
        y.drawn(99, 5);
        Check.due("80 deeds at most", y.now(2), 80);
        Check.due("hours go on", y.now(0), 4);
    }

    /** With one PLACE, DEED and PROMISE each draw is 0, but it is drawn all the same. */
    private static void p35OneOfEach() {
        String house = "hours 8;place w;frog w;person p w;deed d;promise x p d w 1 2 1;";
        for (int seed = -30; seed < 30; seed++) {
            WellPromises x = Check.with(house);
            x.drawn(12, seed);
            int s = seed;
            int deeds = 0;
            int said = -1;
            for (int hour = 0; hour < 12; hour++) {
                s = s * 1103515245 + 12345;
                int sort = (s >>> 8) % 3;
                s = s * 1103515245 + 12345;
                if (sort == 1) {
                    Check.due("deed in " + hour, x.done(deeds, 0), hour);
                    deeds++;
                }
                said = sort == 2 && said == -1 ? hour : said;
            }
            Check.due("deeds by " + seed, x.now(2), deeds);
            Check.due("said by " + seed, x.promise(0, 8), said);
            Check.due("no goings by " + seed, x.person(0, 3), 0);
        }
        for (int seed = -30; seed < 30; seed++) {
            WellPromises x = Check.with("hours 8;place w;place h;way w h;person p w;");
            x.drawn(12, seed);
            int s = seed;
            int goings = 0;
            for (int hour = 0; hour < 12; hour++) {
                s = s * 1103515245 + 12345;
                if ((s >>> 8) % 3 == 0) {
                    s = s * 1103515245 + 12345;
                    goings += (s >>> 8) % 2 != goings % 2 ? 1 : 0;
                }
            }
            Check.due("no deeds and promises to draw, by " + seed, x.person(0, 3), goings);
        }
    }

    private static void p36Odds() {
        WellPromises x = Check.with(HOUSE);
        for (int n : new int[] {0, -1, 31, 32, Integer.MAX_VALUE, Integer.MIN_VALUE}) {
            Check.due("odds of " + n + " seeds", x.odds(0, n, 1), -1);
        }
        for (int n : WILD) {
            Check.due("promise " + n, x.odds(n, 1, 1), -1);
        }
        Check.due("no fourth promise", x.odds(3, 1, 1), -1);
        Check.due("no persons", Check.with("place w;").odds(0, 1, 1), -1);
        x = Check.with("hours 4;place w;frog w;person p w;deed d;promise x p d w 3 3 3;");
        x.say(0, 0);
        Check.due("thirty", x.odds(0, 30, 1), 30);
        Check.due("one", x.odds(0, 1, Integer.MAX_VALUE), 1);
        Check.due("seeds wrap around", x.odds(0, 30, Integer.MAX_VALUE), 30);
        Check.due("nothing goes by", x.now(1), 0);
        Check.due("nothing is done", x.now(2), 0);
        Check.due("only the saying is kept", x.undo(), 0);
        int least = 0;
        for (int k = 0; k < 30; k++) {
            x.drawn(8, 7 + k);
            least += x.status(0, 0) == 4 ? 1 : 0;
            x.undo();
        }
        Check.due("those in which it is said", x.odds(0, 30, 7), least);
        x.hours(76);
        int last = 0;
        for (int k = 0; k < 30; k++) {
            x.drawn(4, 7 + k);
            last += x.status(0, 0) == 4 ? 1 : 0;
            x.undo();
        }
        Check.due("one day is left of two", x.odds(0, 30, 7), last);
        x.hours(4);
        Check.due("none is left", x.odds(0, 30, 7), 0);
    }

    private static void p37Daybook() {
        WellPromises x = Check.with(HOUSE);
        Check.tape(x, "p goes h;");
        for (int n : new int[] {-1, 2, 3, Integer.MAX_VALUE, Integer.MIN_VALUE}) {
            Check.due("lives " + n, x.daybook(n), -1000);
            Check.due("the tape stays", x.count(8), 9);
        }
        Check.due("nothing is booked", x.booked(0), -1);
        Check.due("lives 0", x.daybook(0), -1);
        Check.due("the tape is empty", x.count(8), 0);
        Check.due("all stays", x.person(0, 0), 0);
        Check.due("not busy", x.person(0, 1), 0);
        Check.due("lives 1", Check.daybook(x, "p goes h;", 1), -1);
        Check.due("it went", x.person(0, 0), 1);
        Check.due("busy as by go()", Check.daybook(x, "p goes t;", 1), 0);
        Check.due("an empty one", x.daybook(0), -1);
        Check.due("a fault at the first byte", Check.daybook(x, "nil", 0), -2);
        Check.due("the tape is empty behind a fault", x.count(8), 0);
        Check.due("an empty house has hours", Check.daybook(new WellPromises(), "hour 99;", 1), -1);
        Check.due("but no persons", Check.daybook(new WellPromises(), "p goes h;", 1), -2);
        String odd = "p goes h;q goes w;p says x;q says z;hour 1;p does bow;hour 1;p goes t;q does eat;hour 1;p does eat;";
        WellPromises y = Check.with(HOUSE);
        Check.due("judged", Check.daybook(y, odd, 0), -1);
        Check.due("lived", Check.daybook(y, odd, 1), -1);
        Check.due("as lived by calls", y.status(0, 0), 2);
        Check.due("three deeds", y.now(2), 3);
        Check.due("the third one's place", y.done(2, 3), 2);
        Check.due("the second one's place", y.done(1, 3), 0);
        Check.due("two goings", y.person(0, 3), 2);
    }

    private static void p37Wrong() {
        WellPromises x = Check.with(HOUSE);
        Check.due("the first line", Check.daybook(x, "p goes t;hour 1;", 1), 0);
        Check.due("nothing is lived", x.now(1), 0);
        Check.due("the last line", Check.daybook(x, "hour 1;p goes h;p goes w;", 1), 2);
        Check.due("all ahead of it is", x.person(0, 0), 1);
        Check.due("the hour, too", x.now(1), 1);
        Check.due("judged wrong", Check.daybook(x, "hour 3;q does eat;q does eat;hour 1;", 0), 2);
        Check.due("all stays", x.now(1), 1);
        Check.due("no deed", x.now(2), 0);
        Check.due("the hours that are left", Check.daybook(x, "hour 60;hour 99;", 0), -1);
        Check.due("one more", Check.daybook(x, "hour 60;hour 99;hour 1;", 1), 2);
        Check.due("all is over", x.now(0), 20);
        Check.due("why", x.booked(0), 3);
        Check.due("an hour is wrong then", Check.daybook(x, "hour 1;", 1), 0);
        x.undo();
        Check.due("undone the lived one that lived nothing", x.now(0), 20);
        x.undo();
        Check.due("two of three hours left", Check.daybook(x, "hour 60;hour 97;hour 3;", 1), 2);
        Check.due("fewer than told don't go", 8 * x.now(0) + x.now(1), 158);
        Check.due("forty lines, the last one wrong",
            Check.daybook(Check.with(HOUSE), "hour 1;".repeat(39) + "p goes t;", 0), 39);
    }

    private static void p38Booked() {
        WellPromises x = Check.with(HOUSE);
        for (int n : WILD) {
            Check.due("booked " + n, x.booked(n), -1);
        }
        x.hours(2);
        Check.daybook(x, "p says x;hour 3;p goes h;", 1);
        int[] due = {0, 3, 5, 1};
        for (int what = 0; what < 4; what++) {
            Check.due("booked " + what, x.booked(what), due[what]);
        }
        for (int n : WILD) {
            Check.due("booked then " + n, x.booked(n), -1);
        }
        Check.due("booked 4", x.booked(4), -1);
        x.undo();
        x.hours(1);
        x.daybook(5);
        Check.daybook(x, "p goes nil;", 0);
        x.image(0);
        x.restore(0);
        for (int what = 0; what < 4; what++) {
            Check.due("it stays " + what, x.booked(what), due[what]);
        }
        x.daybook(0);
        int[] empty = {0, 0, 3, 0};
        for (int what = 0; what < 4; what++) {
            Check.due("of an empty one " + what, x.booked(what), empty[what]);
        }
        Check.daybook(x, "q says z;hour 99;q does eat;q goes w;", 0);
        int[] wrong = {1, 3, 102, 1};
        for (int what = 0; what < 4; what++) {
            Check.due("of a wrong one " + what, x.booked(what), wrong[what]);
        }
        Check.due("broken then, not now", x.now(5), 0);
        x = promised("p eat w 2 3 1");
        Check.daybook(x, "p says x;hour 3;", 0);
        Check.due("by reading 0, not by 1", x.booked(3), 0);
        Check.daybook(x, "p says x;hour 4;", 0);
        Check.due("by reading 0", x.booked(3), 1);
    }

    private static void p39Sentence() {
        WellPromises x = Check.with(HOUSE);
        Check.due("an empty text", x.sentence(), -1);
        Check.due("its kind", x.fault(), 1);
        Check.due("no sentence", x.said(-1), -1);
        Check.due("number", Check.sentence(x, "number<2"), 1);
        Check.due("of two", x.said(-1), 2);
        Check.due("a fault at the first byte", Check.sentence(x, "nil"), -1);
        Check.due("a fault further on", Check.sentence(x, "off or off)"), -11);
        Check.due("the tape is empty", x.count(8), 0);
        Check.due("it stays", x.said(-1), 2);
        Check.due("a new one", Check.sentence(x, "not number<2"), 2);
        Check.due("of one", x.said(-1), 1);
        Check.due("that one", x.said(0), 2);
        Check.due("it may be told without promises", Check.sentence(new WellPromises(), "off"), 1);
    }

    private static void said(String text, int... due) {
        WellPromises x = Check.with(HOUSE);
        Check.due("good: " + text, Check.sentence(x, text) > 0, true);
        Check.due("of how many: " + text, x.said(-1), due.length);
        for (int k = 0; k < due.length; k++) {
            Check.due("the one " + k + " of: " + text, x.said(k), due[k]);
        }
    }

    private static void p40Said() {
        WellPromises x = Check.with(HOUSE);
        for (int n : WILD) {
            Check.due("without a sentence " + n, x.said(n), -1);
        }
        Check.sentence(x, "number>0");
        Check.due("how many", x.said(-1), 2);
        Check.due("the first", x.said(0), 1);
        Check.due("the last", x.said(1), 2);
        Check.due("none behind", x.said(2), -1);
        for (int n : WILD) {
            Check.due("said " + n, x.said(n), n == -1 ? 2 : -1);
        }
        WellPromises y = Check.with(PEOPLE);
        Check.sentence(y, "number=0");
        Check.due("no promises, none", y.said(-1), 0);
        Check.due("no promises, no first", y.said(0), -1);
        said("off");
        said("not off", 0, 1, 2);
        said("number=0 or(kept or off and off)", 0);
        said("number=0 or(kept or(off or kept and off))", 0);
        said("number=0 or(kept or not(off or not kept and off))", 0, 1, 2);
        said("number<3 and(number>0 and(number<2 or off and kept))", 1);
        said("off or ".repeat(19) + "number=2", 2);
        said("not off and ".repeat(9) + "not number=2", 0, 1);
        said("number=1 and ".repeat(9) + "number=1", 1);
        said("number=0" + " or off".repeat(18) + " and kept", 0);
        said("number=0 and off or number=1 or off and number=2", 1);
        said("not not not number=1", 0, 2);
        said("not(not(not(number=1)))", 0, 2);
        said("of p and not number=0 or of q", 1, 2);
    }

    private static void p40ByReadingZero() {
        WellPromises x = promised("p eat w 3 3 1");
        Check.sentence(x, "not bound");
        Check.due("not said", x.said(-1), 1);
        x.say(0, 0);
        Check.due("said", x.said(-1), 0);
        x.hours(3);
        Check.due("broken by 1", x.status(0, 1), 4);
        Check.sentence(x, "open");
        Check.due("open by 0", x.said(-1), 1);
        x.hours(1);
        Check.due("open no more", x.said(-1), 0);
        Check.sentence(x, "broken");
        Check.due("broken", x.said(-1), 1);
        x.undo();
        Check.due("the sentence stays, the hour is undone", x.said(-1), 0);
        x.act(0, 0);
        Check.sentence(x, "kept");
        Check.due("kept", x.said(-1), 1);
        x = promised("p eat w 3 3 1 unless bow");
        x.say(0, 0);
        x.act(1, 1);
        Check.sentence(x, "off");
        Check.due("let off by another one's deed", x.said(-1), 1);
    }

    private static void p41Image() {
        WellPromises x = Check.with(HOUSE);
        for (int n : new int[] {-1, 2, 3, Integer.MAX_VALUE, Integer.MIN_VALUE}) {
            Check.due("image " + n, x.image(n), false);
            Check.due("restore " + n, x.restore(n), false);
        }
        Check.due("refused ones keep nothing", x.restore(0) || x.restore(1), false);
        x.hours(1);
        Check.due("place 0", x.image(0), true);
        x.hours(1);
        Check.due("place 1", x.image(1), true);
        x.hours(1);
        Check.due("place 0 again", x.image(0), true);
        x.restore(1);
        Check.due("of place 1", x.now(1), 2);
        x.restore(0);
        Check.due("the newer one of place 0", x.now(1), 3);
        WellPromises y = new WellPromises();
        y.image(1);
        Check.house(y, HOUSE);
        Check.due("an empty house is kept, too", y.restore(1), true);
        Check.due("it is empty", y.count(1), 0);
    }

    private static void p42Restore() {
        WellPromises x = Check.with(HOUSE);
        Check.due("nothing is kept", x.restore(0), false);
        x.hours(2);
        Check.due("a refused one leaves what can be undone", x.undo(), 0);
        x.go(0, 1);
        x.say(0, 1);
        x.act(1, 1);
        x.hours(3);
        x.act(1, 0);
        Check.sentence(x, "number=1");
        x.plan(0);
        x.image(0);
        Check.daybook(x, "hour 4;", 1);
        Check.sentence(x, "number");
        Check.house(x, "hours 9;place a;place b;place c;place e;place f;person v c;deed d;");
        x.go(0, 1);
        x.act(0, 0);
        Check.house(x, "hours 3;");
        Check.tape(x, "pla");
        Check.due("restored", x.restore(0), true);
        Check.due("the tape stays", x.count(8), 3);
        Check.due("the fault stays", x.fault(), 2);
        Check.due("what was booked stays", x.booked(2), 7);
        Check.due("the steps stay", x.step(3), 201);
        int[] so = {0, 3, 2, 1, 1, 0};
        for (int what = 0; what < so.length; what++) {
            Check.due("restored now " + what, x.now(what), so[what]);
        }
        Check.due("where it was", x.person(0, 0), 1);
        Check.due("goings", x.person(0, 3), 1);
        Check.due("busy", x.person(1, 1), 1);
        Check.due("when it was said", x.promise(1, 8), 0);
        Check.due("the first deed", x.done(0, 2), 1);
        Check.due("the second deed's time", x.done(1, 0), 3);
        Check.due("the sentence", x.said(0), 1);
        Check.due("chains", x.chain(0), 3);
        Check.due("ways", x.way(0, 2), 2);
        Check.due("nothing can be undone", x.undo(), -1);
        x.hours(1);
        Check.due("but what comes then", x.undo(), 0);
        x.hours(5);
        Check.due("twice from one image", x.restore(0), true);
        Check.due("as it was", x.now(1), 3);
    }

    private static void p43Count() {
        WellPromises x = new WellPromises();
        for (int n : WILD) {
            Check.due("count " + n, x.count(n), n == 8 ? 0 : -1);
        }
        Check.due("hours without a house", x.count(0), 24);
        for (int k = 1; k <= 47; k++) {
            x.feed(0, 0, 0, 0, 0);
            Check.due("bytes", x.count(8), 20 * k);
        }
        x.feed(0, 0, 0, 0, 0);
        Check.due("no more bytes", x.count(8), 940);
        x.end(1);
        Check.due("one byte", x.count(8), 1);
        x.house();
        Check.due("none behind a house", x.count(8), 0);
        Check.house(x, HOUSE);
        int[] due = {8, 4, 2, 2, 2, 2, 3, 2, 0, -1};
        for (int what = 0; what < due.length; what++) {
            Check.due("count " + what, x.count(what), due[what]);
        }
    }
}
