import java.lang.management.ManagementFactory;
import java.util.NoSuchElementException;
import java.util.Random;

/** Calls make no objects, and no arguments in any state make the machine throw. */
public final class RoomTest {
    private static final int[] EDGES = {-1, 0, 1, 2, 3, 7, 8, 9, 20, 24, 30, 31, 32, 33, 99, 100, 900, 940, 941,
        Integer.MAX_VALUE, Integer.MIN_VALUE, Integer.MIN_VALUE + 1, Integer.MAX_VALUE - 1};
    private static final String HOUSE = "hours 24;place a;place b;place c;place e;place f;place g;place h;place i;way a b;"
        + "way b c;way c e;way e f;way f g;way g h;way h i;way i a;way a c;way a e;way a f;way a g;frog a;frog b;frog c;frog i;"
        + "person p a;person q b;person r c;person s e;deed da;deed db;deed dc;deed de;deed df;deed dg;"
        + "promise xa p da a 0 23 3;promise xb p db c 2 22 3 each unless da;promise xc p dc f 3 21 3;"
        + "promise xe p de h 5 23 3;promise xf q da a 4 4 1 each;promise xg r db b 0 0 2 unless dg;vow xa xb;vow xb xa;";

    private static final Random RANDOM = new Random(7);

    public static void main(String[] args) {
        wildCalls();
        noObjects();
        Check.done("RoomTest");
    }

    private static int some() {
        return RANDOM.nextInt(3) == 0 ? EDGES[RANDOM.nextInt(EDGES.length)] : RANDOM.nextInt(10) - 1;
    }

    private static void wildCalls() {
        for (int run = 0; run < 1500; run++) {
            WellPromises x = new WellPromises();
            if (run % 3 != 0) {
                Check.house(x, HOUSE);
            }
            int calls = 0;
            boolean threw = false;
            try {
                for (calls = 0; calls < 480; calls++) {
                    call(x, RANDOM.nextInt(46));
                }
            } catch (RuntimeException e) {
                threw = true;
                System.out.println("run " + run + " threw " + e + " at " + e.getStackTrace()[0]);
            }
            Check.due("run " + run + " throws", threw, false);
        }
    }

    private static long call(WellPromises x, int which) {
        switch (which) {
            case 0: return x.feed(RANDOM.nextInt(), some(), 0x70207361, 0x79732078, 0x613b2020);
            case 1: return x.end(some()) ? 1 : 0;
            case 2: return RANDOM.nextInt(40) == 0 ? x.house() : 0;
            case 3: return x.fault();
            case 4: return promise(x);
            case 5: return x.person(some(), some());
            case 6: return x.way(some(), some());
            case 7: return x.frog(some());
            case 8: return x.now(some());
            case 9: return x.whyGo(some(), some());
            case 10: return x.go(some(), some());
            case 11: return x.act(some(), some());
            case 12: return x.say(some(), some());
            case 13: return x.hours(some());
            case 14: return x.done(some(), some());
            case 15: return x.undo();
            case 16: return x.status(some(), some());
            case 17: return x.readings(some(), some());
            case 18: return x.broken(some(), some());
            case 19: return x.breach(some(), some());
            case 20: return x.asks(some(), some());
            case 21: return x.agree();
            case 22: return RANDOM.nextInt(8) == 0 ? x.plan(some()) : 0;
            case 23: return x.step(some());
            case 24: return RANDOM.nextInt(8) == 0 ? x.quarrel(some()) : 0;
            case 25: return x.chain(some());
            case 26: return x.rings();
            case 27: return x.roots();
            case 28: return x.knows(some(), some());
            case 29: return x.heard(some());
            case 30: return x.dry();
            case 31: return x.windows(some(), some(), some());
            case 32: return x.shortest(some(), some(), some());
            case 33: return x.drawn(some(), some());
            case 34: return RANDOM.nextInt(8) == 0 ? x.odds(some(), some(), some()) : 0;
            case 35: return x.daybook(some());
            case 36: return x.booked(some());
            case 37: return x.sentence();
            case 38: return x.said(some());
            case 39: return x.image(some()) ? 1 : 0;
            case 40: return x.restore(some()) ? 1 : 0;
            case 41: return x.count(some());
            case 42: return book(x, "p goes b;q does da;hour 3;r says xg;");
            case 43: return words(x, "bound and not (of p or till > 9)");
            case 44: return x.say(RANDOM.nextInt(4), RANDOM.nextInt(6));
            default: return x.hours(1 + RANDOM.nextInt(3));
        }
    }

    private static int book(WellPromises x, String text) {
        x.end(0);
        return Check.daybook(x, text, 1);
    }

    private static int words(WellPromises x, String text) {
        x.end(0);
        return Check.sentence(x, text);
    }

    private static int promise(WellPromises x) {
        try {
            return x.promise(some(), some());
        } catch (NoSuchElementException e) {
            return -1;
        }
    }

    /** Behind the first PLAN, which makes its table, all calls live in what the constructor made. */
    private static void noObjects() {
        byte[] house = HOUSE.getBytes(java.nio.charset.StandardCharsets.ISO_8859_1);
        byte[] book = "p goes b;q does da;hour 3;".getBytes(java.nio.charset.StandardCharsets.ISO_8859_1);
        byte[] words = "bound and not (of p or till > 9)".getBytes(java.nio.charset.StandardCharsets.ISO_8859_1);
        long least = Long.MAX_VALUE;
        for (int round = 0; round < 5; round++) {
            WellPromises x = new WellPromises();
            oneRound(x, house, book, words);
            long before = made();
            oneRound(x, house, book, words);
            least = Math.min(least, made() - before);
        }
        Check.due("bytes that calls made stay below 4000: " + least, least < 4000, true);
        long before = made();
        WellPromises y = new WellPromises();
        long bytes = made() - before;
        Check.due("a new object is small: " + bytes + y.undo(), bytes < 40000, true);
    }

    private static long made() {
        return ((com.sun.management.ThreadMXBean) ManagementFactory.getThreadMXBean())
            .getThreadAllocatedBytes(Thread.currentThread().getId());
    }

    private static void oneRound(WellPromises x, byte[] house, byte[] book, byte[] words) {
        x.end(0);
        Check.tape(x, house);
        x.house();
        x.say(0, 0);
        x.say(0, 1);
        x.say(0, 2);
        x.plan(0);
        x.quarrel(0);
        x.drawn(50, 3);
        x.odds(0, 30, 9);
        Check.tape(x, book);
        x.daybook(1);
        Check.tape(x, words);
        x.sentence();
        x.said(-1);
        x.image(0);
        x.restore(0);
        x.agree();
        x.roots();
        x.breach(0, 1);
        x.windows(0, 0, 0);
        x.undo();
    }
}
