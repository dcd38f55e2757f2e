/** Promises 24 to 26: PLANS, their steps and QUARRELS. */
public final class PlanTest {
    private static final String PEOPLE = "hours 6;place w;place h;place t;place far;way w h;way h t;way w t;frog w;"
        + "person p w;person q h;deed eat;deed bow;deed sit;";

    public static void main(String[] args) {
        nothingDue();
        goingLate();
        oneDeedForTwo();
        firstOfLikeOnes();
        thereAndBack();
        whatWasDone();
        busyNow();
        letOffOnesToo();
        tooMany();
        stepsStay();
        manyDeedsDone();
        quarrels();
        overAndNone();
        Check.done("PlanTest");
    }

    private static void steps(String name, WellPromises x, int... due) {
        for (int hour = 0; hour < due.length; hour++) {
            Check.due(name + ": step " + hour, x.step(hour), due[hour]);
        }
        Check.due(name + ": step behind", x.step(due.length), -1);
    }

    private static void nothingDue() {
        WellPromises x = Check.with(PEOPLE + "promise x q eat h 1 1 1;");
        Check.due("ahead of any", x.step(0), -1);
        x.hours(2);
        Check.due("nothing due", x.plan(0), 0);
        steps("nothing due", x, -1, -1, 0, 0, 0, 0);
        Check.due("below", x.step(-1), -1);
        x.say(1, 0);
        Check.due("not bound", x.plan(1), 0);
        Check.due("no quarrel", x.quarrel(1), 0);
    }

    private static void goingLate() {
        WellPromises x = Check.with(PEOPLE + "promise x p eat h 1 4 2;promise y p bow w 0 5 1;");
        x.say(0, 0);
        x.say(0, 1);
        Check.due("one going", x.plan(0), 1);
        steps("one going", x, 0, 201, 101, 200, 200, 0);
        Check.due("for the other one", x.plan(1), 0);
        steps("for the other one", x, 0, 0, 0, 0, 0, 0);
    }

    private static void oneDeedForTwo() {
        WellPromises x = Check.with(PEOPLE + "promise x p eat w 1 3 2;promise y p eat w 3 5 2;");
        x.say(0, 0);
        x.say(0, 1);
        Check.due("no going", x.plan(0), 0);
        steps("one for two", x, 0, 0, 200, 200, 0, 200);
    }

    private static void firstOfLikeOnes() {
        WellPromises x = Check.with(PEOPLE + "promise x p bow t 0 5 1;promise y p eat w 0 5 1;promise z p sit w 0 5 1;");
        x.say(0, 0);
        x.say(0, 1);
        x.say(0, 2);
        Check.due("one going", x.plan(0), 1);
        steps("going comes ahead of doing, but does not come twice", x, 0, 0, 200, 202, 102, 201);
        WellPromises far = Check.with("hours 6;place a;place b;place c;place e;way a c;way a b;way c e;way b e;frog a;"
            + "person p a;deed d;promise x p d e 0 3 1;");
        far.say(0, 0);
        Check.due("two goings", far.plan(0), 2);
        steps("by places", far, 0, 101, 103, 200, 0, 0);
    }

    private static void thereAndBack() {
        WellPromises x = Check.with("hours 6;place w;place h;place t;way w h;way h t;frog w;frog t;person p t;deed eat;deed bow;"
            + "promise x p eat w 2 3 1;promise y p bow t 0 5 1;promise z p eat t 5 5 1;");
        x.say(0, 0);
        x.say(0, 1);
        Check.due("two goings to the first place", x.plan(0), 2);
        steps("to the first place", x, 201, 101, 100, 200, 0, 0);
        x.say(0, 2);
        Check.due("too far for all", x.plan(0), -1);
        Check.due("all three quarrel, two never", x.quarrel(0), 7);
        x.go(0, 1);
        Check.due("without y's deed", x.plan(0), -1);
        x.hours(1);
        x.go(0, 0);
        x.hours(1);
        x.act(0, 0);
        x.hours(1);
        Check.due("and back for both", x.plan(0), -1);
        Check.due("two of one hour quarrel", x.quarrel(0), 6);
    }

    private static void whatWasDone() {
        WellPromises x = Check.with(PEOPLE + "promise x p eat w 0 2 2;");
        x.say(0, 0);
        x.act(0, 0);
        x.hours(1);
        Check.due("one yet", x.plan(0), 0);
        steps("one yet", x, -1, 0, 200, 0, 0, 0);
        x.act(0, 0);
        Check.due("kept", x.plan(0), 0);
        steps("kept", x, -1, 0, 0, 0, 0, 0);
        x.hours(4);
        Check.due("kept yet", x.plan(0), 0);
        steps("the rest of the day", x, -1, -1, -1, -1, -1, 0);
    }

    private static void busyNow() {
        WellPromises x = Check.with(PEOPLE + "promise x p eat w 0 0 1;promise y p eat w 0 1 1;");
        x.say(0, 1);
        x.act(0, 1);
        Check.due("it stays now", x.plan(0), 0);
        steps("it stays now", x, 0, 200, 0, 0, 0, 0);
        x.say(0, 0);
        Check.due("too late", x.plan(0), -1);
        Check.due("quarrel alone", x.quarrel(0), 1);
    }

    private static void letOffOnesToo() {
        WellPromises x = Check.with(PEOPLE + "promise x p eat w 0 1 1 unless bow;");
        x.say(0, 0);
        x.hours(1);
        x.act(0, 1);
        Check.due("let off", x.status(0, 0), 3);
        Check.due("is to be kept all the same", x.plan(0), -1);
        Check.due("quarrel", x.quarrel(0), 1);
    }

    private static void tooMany() {
        StringBuilder text = new StringBuilder(PEOPLE);
        for (char c = 'a'; c < 'f'; c++) {
            text.append("promise q").append(c).append(" p eat w 0 5 1;");
        }
        WellPromises x = Check.with(text.toString());
        for (int k = 0; k < 4; k++) {
            x.say(0, k);
        }
        Check.due("four", x.plan(0), 0);
        steps("four", x, 0, 0, 0, 0, 0, 200);
        Check.due("four don't quarrel", x.quarrel(0), 0);
        x.say(0, 4);
        Check.due("five", x.plan(0), -1);
        Check.due("five for a quarrel", x.quarrel(0), -1);
        x.act(0, 0);
        Check.due("five, though kept", x.plan(0), -1);
        x.hours(6);
        Check.due("due no more", x.plan(0), 0);
    }

    private static void stepsStay() {
        WellPromises x = Check.with(PEOPLE + "promise x p eat h 3 3 1;promise y p eat w 3 3 1;");
        x.say(0, 0);
        Check.due("a plan", x.plan(0), 1);
        x.image(0);
        x.say(0, 1);
        Check.due("no plan", x.plan(0), -1);
        steps("the latest that was", x, 0, 0, 101, 200, 0, 0);
        x.restore(0);
        x.hours(9);
        steps("it stays", x, 0, 0, 101, 200, 0, 0);
    }

    private static void manyDeedsDone() {
        WellPromises x = Check.with("hours 4;place w;frog w;person a w;person b w;person c w;person e w;deed d;"
            + "promise x a d w 0 3 1;");
        for (int k = 0; k < 20; k++) {
            for (int p = 0; p < 4; p++) {
                x.act(p, 0);
            }
            x.hours(1);
        }
        x.say(0, 0);
        Check.due("no more can be done", x.act(0, 0), 4);
        Check.due("however many were done", x.plan(0), 0);
        Check.due("its step", x.step(3), 200);
    }

    private static void quarrels() {
        WellPromises x = Check.with(PEOPLE + "promise a p eat w 1 1 1;promise b p bow w 1 2 1;promise c p sit w 1 2 1;"
            + "promise e p eat far 1 2 1;");
        for (int k = 0; k < 3; k++) {
            x.say(0, k);
        }
        Check.due("three can't", x.plan(0), -1);
        Check.due("three quarrel, two don't", x.quarrel(0), 7);
        x.say(0, 3);
        Check.due("one alone quarrels", x.quarrel(0), 8);
        x = Check.with(PEOPLE + "promise a p eat w 5 5 1;promise b p bow h 3 3 1;promise c q bow h 3 3 1;"
            + "promise e p sit t 3 3 1;promise f p eat t 3 3 1;");
        for (int k : new int[] {0, 1, 3, 4}) {
            x.say(0, k);
        }
        Check.due("the least as bits", x.quarrel(0), 10);
    }

    private static void overAndNone() {
        WellPromises x = Check.with(PEOPLE + "promise x p eat h 3 3 1;");
        Check.due("plan for none", x.plan(2), -1);
        Check.due("plan below", x.plan(-1), -1);
        Check.due("quarrel of none", x.quarrel(2), -1);
        Check.due("quarrel below", x.quarrel(-1), -1);
        x.hours(99);
        x.hours(99);
        Check.due("plan when all is over", x.plan(0), -1);
        Check.due("quarrel when all is over", x.quarrel(0), -1);
    }
}
