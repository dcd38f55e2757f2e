/** Promises 27 to 32: CHAINS, RINGS, roots, what frogs KNOW, dry PLACES. */
public final class VowFrogTest {
    private static final String FIVE = "place w;person p w;deed d;promise a p d w 1 2 1;promise b p d w 1 2 1;"
        + "promise c p d w 1 2 1;promise e p d w 1 2 1;promise f p d w 1 2 1;";

    public static void main(String[] args) {
        chains();
        rings();
        roots();
        frogs();
        unheard();
        dry();
        Check.done("VowFrogTest");
    }

    private static void chains() {
        WellPromises x = Check.with(FIVE + "vow a b;vow b c;vow e c;");
        int[] due = {1, 3, 15, 8, 16};
        for (int p = 0; p < due.length; p++) {
            Check.due("chain " + p, x.chain(p), due[p]);
        }
        Check.due("chain of none", x.chain(5), -1);
        Check.due("chain below", x.chain(-1), -1);
        Check.due("no rings", x.rings(), 0);
        Check.due("roots", x.roots(), 20);
    }

    private static void rings() {
        WellPromises x = Check.with(FIVE + "vow a b;vow b c;vow c a;vow e a;vow b f;");
        Check.due("ring of three", x.rings(), 7);
        Check.due("chain of the ring", x.chain(0), 15);
        Check.due("chain into the ring", x.chain(4), 31);
        Check.due("one root", x.roots(), 16);
        x = Check.with(FIVE + "vow a b;vow b a;vow f e;vow e f;");
        Check.due("two rings", x.rings(), 27);
    }

    private static void roots() {
        WellPromises x = Check.with(FIVE);
        Check.due("all are roots", x.roots(), 31);
        x = Check.with(FIVE + "vow a b;vow b a;vow f e;vow e f;");
        Check.due("the least of each ring", x.roots(), 1 + 4 + 8);
        x = new WellPromises();
        Check.due("no promises", x.roots(), 0);
    }

    private static void frogs() {
        WellPromises x = Check.with("hours 5;place a;place b;place c;place e;place g;way a b;way b c;way c e;way e g;"
            + "frog a;frog b;frog c;frog g;frog a;person p a;person q e;person r b;deed d;promise x p d a 1 2 1;"
            + "promise y q d a 1 2 1;promise z r d a 1 2 1;");
        Check.due("not said", x.knows(0, 0), -1);
        Check.due("heard by none", x.heard(0), 0);
        x.hours(7);
        x.say(0, 0);
        int[] due = {7, 8, 9, -1, 7};
        for (int f = 0; f < due.length; f++) {
            Check.due("knows " + f, x.knows(f, 0), due[f]);
        }
        Check.due("heard at once", x.heard(0), 17);
        x.hours(1);
        Check.due("heard then", x.heard(0), 19);
        x.hours(1);
        Check.due("heard at last", x.heard(0), 23);
        x.hours(50);
        Check.due("never further than a frog hears", x.heard(0), 23);
        Check.due("when it was", x.knows(2, 0), 9);
        x.say(2, 2);
        int[] third = {60, 59, 60, -1, 60};
        for (int f = 0; f < third.length; f++) {
            Check.due("knows of the third " + f, x.knows(f, 2), third[f]);
        }
        Check.due("heard of the third", x.heard(2), 2);
        Check.due("no such frog", x.knows(5, 0), -1);
        Check.due("frog below", x.knows(-1, 0), -1);
        Check.due("no such promise", x.knows(0, 3), -1);
        Check.due("promise below", x.knows(0, -1), -1);
        Check.due("heard of none", x.heard(3), -1);
        Check.due("heard below", x.heard(-1), -1);
    }

    private static void unheard() {
        WellPromises x = Check.with("place a;place b;way a b;frog a;person p b;deed d;promise x p d a 1 2 1;");
        x.say(0, 0);
        x.hours(9);
        Check.due("no frog is there", x.knows(0, 0), -1);
        Check.due("heard by none", x.heard(0), 0);
        Check.due("not bound", x.promise(0, 9), 0);
        Check.due("said", x.now(3), 1);
        Check.due("by none", x.now(4), 0);
    }

    private static void dry() {
        WellPromises x = Check.with("place a;place b;place c;frog b;frog b;");
        Check.due("two are dry", x.dry(), 5);
        x = Check.with("place a;place b;place c;place e;place f;place g;place h;place i;");
        Check.due("all are dry", x.dry(), 255);
        Check.due("no places", new WellPromises().dry(), 0);
    }
}
