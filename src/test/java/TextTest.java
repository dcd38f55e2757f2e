/** Promises 1 to 5: the tape, the HOUSE's text and its FAULTS. */
public final class TextTest {
    private static final String START = "place w;person p w;deed d;promise x p d w 1 2 1";

    public static void main(String[] args) {
        newObject();
        feeding();
        cutting();
        goodHouses();
        tokens();
        wrongNumbers();
        wrongNames();
        tooMany();
        tooLong();
        faultStays();
        Check.done("TextTest");
    }

    private static void newObject() {
        WellPromises x = new WellPromises();
        int[] counts = {24, 0, 0, 0, 0, 0, 0, 0, 0};
        for (int what = 0; what < counts.length; what++) {
            Check.due("new count " + what, x.count(what), counts[what]);
        }
        Check.due("new fault", x.fault(), 0);
        Check.due("new day", x.now(0), 0);
        Check.due("new said", x.said(-1), -1);
        Check.due("NONE", WellPromises.NONE, -1);
    }

    private static void feeding() {
        WellPromises x = new WellPromises();
        for (int k = 1; k <= 47; k++) {
            Check.due("feed " + k, x.feed(0x20202020, 0x20202020, 0x20202020, 0x20202020, 0x20202020), 20 * k);
        }
        Check.due("feed too much", x.feed(1, 2, 3, 4, 5), -1);
        Check.due("bytes", x.count(8), 940);
        Check.due("end 921", x.end(921), true);
        Check.due("feed 21 over", x.feed(1, 2, 3, 4, 5), -1);
        Check.due("bytes then", x.count(8), 921);
        Check.due("end 920", x.end(920), true);
        Check.due("feed fits", x.feed(1, 2, 3, 4, 5), 940);
        x.end(0);
        x.feed(('p' << 24) | ('l' << 16) | ('a' << 8) | 'c', ('e' << 24) | (' ' << 16) | ('h' << 8) | ';', 0, 0, 0);
        x.end(8);
        Check.due("highest byte first", x.house(), 1);
    }

    private static void cutting() {
        WellPromises x = new WellPromises();
        Check.due("end 0 of none", x.end(0), true);
        Check.due("end 1 of none", x.end(1), false);
        Check.due("end below", x.end(-1), false);
        x.feed(0, 0, 0, 0, 0);
        Check.due("end 21", x.end(21), false);
        Check.due("end 20", x.end(20), true);
        Check.due("end 7", x.end(7), true);
        Check.due("bytes", x.count(8), 7);
        Check.due("end 8", x.end(8), false);
        Check.due("feed behind", x.feed(0, 0, 0, 0, 0), 27);
    }

    private static void goodHouses() {
        WellPromises x = new WellPromises();
        Check.due("empty", x.house(), 0);
        Check.due("blanks", Check.house(x, " \n "), 0);
        Check.due("bytes behind house", x.count(8), 0);
        Check.due("tight", Check.house(x, "place w;place h;way h w;frog h;"), 4);
        Check.due("blanks everywhere", Check.house(x, "\n place  w ;\nplace h ; way w\nh;"), 3);
        Check.due("hours 4", Check.house(x, "hours 4;"), 1);
        Check.due("hours told", x.count(0), 4);
        Check.due("hours 024", Check.house(x, "hours 024;"), 1);
        Check.due("hours 24", x.count(0), 24);
        Check.due("seven letters", Check.house(x, "place abcdefg;frog abcdefg;"), 2);
        Check.due("each unless", Check.house(x, START + " each unless d;"), 4);
        Check.due("each told", x.promise(0, 6), 1);
        Check.due("unless told", x.promise(0, 7), 0);
        Check.due("unless alone", Check.house(x, START + " unless d;"), 4);
        Check.due("each not told", x.promise(0, 6), 0);
        Check.due("hours without", x.count(0), 24);
        Check.due("edges of numbers", Check.house(x, "place w;person p w;deed d;promise x p d w 0 23 3;"), 4);
        Check.due("one point", Check.house(x, "place w;person p w;deed d;promise x p d w 23 23 1;"), 4);
        Check.due("both orders of a vow", Check.house(x, START + ";promise y p d w 1 1 1;vow x y;vow y x;"), 7);
        Check.due("vows", x.count(7), 2);
        Check.due("words that begin like told ones", Check.house(x, "place ways;place offs;way ways offs;"), 3);
    }

    private static void tokens() {
        Check.houseFault(";", 0, 1);
        Check.houseFault("well", 0, 1);
        Check.houseFault("goes w;", 0, 1);
        Check.houseFault("place", 5, 1);
        Check.houseFault("place ", 6, 1);
        Check.houseFault("place w", 7, 1);
        Check.houseFault("place w;;", 8, 1);
        Check.houseFault("place abcdefgh;", 6, 1);
        Check.houseFault("place a1;", 6, 1);
        Check.houseFault("place 1a;", 6, 1);
        Check.houseFault("place 12;", 6, 1);
        Check.houseFault("place W;", 6, 1);
        Check.houseFault("place w.", 7, 1);
        Check.houseFault("place\tw;", 5, 1);
        Check.houseFault("place \u00e9;", 6, 1);
        Check.houseFault("place \0;", 6, 1);
        Check.houseFault("placew;", 0, 1);
        Check.houseFault("hours 0024;", 6, 1);
        Check.houseFault("hours8;", 0, 1);
        Check.houseFault("hours x;", 6, 1);
        Check.houseFault("hours 8 8;", 8, 1);
        Check.houseFault(START + " each each;", 53, 1);
        Check.houseFault(START + " unless d each;", 57, 1);
        Check.houseFault(START + " d;", 48, 1);
        Check.houseFault(START, 47, 1);
        Check.houseFault("frog <;", 5, 1);
        String[] told = {"hours", "place", "way", "frog", "person", "deed", "promise", "each", "unless", "vow", "goes",
            "does", "says", "hour", "or", "and", "not", "bound", "open", "kept", "off", "broken", "of", "from", "till",
            "times", "number"};
        for (String word : told) {
            Check.houseFault("place " + word + ";", 6, 1);
            Check.houseFault("frog " + word + ";", 5, 1);
        }
    }

    private static void wrongNumbers() {
        Check.houseFault("hours 3;", 6, 2);
        Check.houseFault("hours 25;", 6, 2);
        Check.houseFault("hours 0;", 6, 2);
        Check.houseFault("place w;person p w;deed d;promise x p d w 24 24 1;", 42, 2);
        Check.houseFault("place w;person p w;deed d;promise x p d w 3 24 1;", 44, 2);
        Check.houseFault("place w;person p w;deed d;promise x p d w 3 2 1;", 44, 2);
        Check.houseFault("place w;person p w;deed d;promise x p d w 3 3 0;", 46, 2);
        Check.houseFault("place w;person p w;deed d;promise x p d w 3 3 4;", 46, 2);
    }

    private static void wrongNames() {
        Check.houseFault("hours 8;hours", 8, 3);
        Check.houseFault("place w;place w;", 14, 3);
        Check.houseFault("place w;deed w;", 13, 3);
        Check.houseFault("place w;person w w;", 15, 3);
        Check.houseFault("place w;person p p;", 17, 3);
        Check.houseFault("frog w;", 5, 3);
        Check.houseFault("way w h;", 4, 3);
        Check.houseFault("place w;way w h;", 14, 3);
        Check.houseFault("place w;way w w;", 14, 3);
        Check.houseFault("place w;place h;way w h;way w h;", 30, 3);
        Check.houseFault("place w;place h;way w h;way h w;", 30, 3);
        Check.houseFault("place w;person p w;frog p;", 24, 3);
        Check.houseFault(START + ";promise x p d w 1 2 1;", 56, 3);
        Check.houseFault("place w;person p w;deed d;promise x w d w 1 2 1;", 36, 3);
        Check.houseFault("place w;person p w;deed d;promise x p w w 1 2 1;", 38, 3);
        Check.houseFault("place w;person p w;deed d;promise x p d d 1 2 1;", 40, 3);
        Check.houseFault("place w;person p w;deed d;promise x x d w 1 2 1;", 36, 3);
        Check.houseFault(START + " unless p;", 55, 3);
        Check.houseFault(START + ";vow x x;", 54, 3);
        Check.houseFault(START + ";vow x w;", 54, 3);
        Check.houseFault(START + ";vow y x;", 52, 3);
        Check.houseFault(START + ";promise y p d w 1 2 1;vow x y;vow x y;", 84, 3);
    }

    private static void tooMany() {
        Check.houseFault(lines("place ", 8, ";") + "place", 64, 4);
        Check.houseFault(lines("deed ", 6, ";") + "deed 5;", 42, 4);
        Check.houseFault("place w;" + "frog w;".repeat(6) + "frog", 50, 4);
        Check.houseFault("place w;" + lines("person ", 4, " w;") + "person w;", 52, 4);
        String nine = "place w;person p w;deed d;" + lines("promise ", 8, " p d w 1 2 1;");
        Check.houseFault(nine + "promise x", nine.length(), 4);
        StringBuilder ways = new StringBuilder(lines("place ", 8, ";"));
        int told = 0;
        for (char a = 'A'; a < 'H' && told < 12; a++) {
            for (char b = (char) (a + 1); b <= 'H' && told < 12; b++, told++) {
                ways.append("way ").append(name(a - 'A')).append(' ').append(name(b - 'A')).append(';');
            }
        }
        Check.due("12 ways", Check.house(new WellPromises(), ways.toString()), 20);
        Check.houseFault(ways + "way q;", ways.length(), 4);
        String vows = "place w;person p w;deed d;" + lines("promise ", 5, " p d w 1 2 1;");
        String eight = vows + "vow za zb;vow zb za;vow za zc;vow zc za;vow za zd;vow zd za;vow za ze;vow ze za;";
        Check.due("8 vows", Check.house(new WellPromises(), eight.replace("z", "q")), 16);
        Check.houseFault(eight.replace("z", "q") + "vow qa qa;", eight.length(), 4);
    }

    private static String lines(String before, int n, String behind) {
        StringBuilder text = new StringBuilder();
        boolean two = before.equals("promise ");
        for (int k = 0; k < n; k++) {
            text.append(before).append(two ? "q" + (char) ('a' + k) : name(k)).append(behind);
        }
        return text.toString();
    }

    private static String name(int k) {
        return String.valueOf("abcefghijk".charAt(k));
    }

    private static void tooLong() {
        String blanks = " ".repeat(892);
        Check.due("900 bytes", Check.house(new WellPromises(), "place w;" + blanks), 1);
        Check.houseFault("place w;" + blanks + " ", 900, 1);
        Check.houseFault("place w;" + " ".repeat(932), 900, 1);
        Check.houseFault(" ".repeat(895) + "place w;", 900, 1);
        Check.houseFault(" ".repeat(900) + "place w;", 900, 1);
        Check.houseFault(" ".repeat(898) + "zzzzz", 898, 1);
        Check.houseFault("place w;" + " ".repeat(886) + "frog ww;", 899, 3);
        Check.houseFault("place w;" + " ".repeat(885) + "frog  ww;", 899, 3);
        Check.houseFault("place w;" + " ".repeat(886) + "frog  ww;", 900, 1);
        Check.houseFault(" ".repeat(893) + "hours 251", 899, 2);
        Check.houseFault(" ".repeat(893) + "hours 24;", 900, 1);
        Check.houseFault("hours 3;" + " ".repeat(930), 6, 2);
    }

    private static void faultStays() {
        WellPromises x = Check.with("hours 6;place w;place h;person p w;deed d;");
        x.act(0, 0);
        Check.due("a faulty house", Check.house(x, "place w;place w;"), -15);
        Check.due("kind", x.fault(), 3);
        Check.due("places stay", x.count(1), 2);
        Check.due("hours stay", x.count(0), 6);
        Check.due("deeds stay", x.now(2), 1);
        Check.due("tape is empty", x.count(8), 0);
        Check.due("undo stays", x.undo(), 0);
        Check.tape(x, "abc");
        Check.due("another lives", x.daybook(2), -1000);
        Check.due("kind stays", x.fault(), 3);
        Check.due("tape stays", x.count(8), 3);
        x.end(0);
        Check.due("a good daybook", x.daybook(0), -1);
        Check.due("no fault", x.fault(), 0);
        Check.due("a faulty sentence", x.sentence(), -1);
        Check.due("its kind", x.fault(), 1);
        Check.due("a good house", x.house(), 0);
        Check.due("kind is none", x.fault(), 0);
        Check.due("nothing is told", x.count(1), 0);
        Check.due("hours again", x.count(0), 24);
    }
}
