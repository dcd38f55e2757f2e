/** The boundary cases of the texts: TOKENS, HOUSES, DAYBOOKS, SENTENCES, too long, too many, and which FAULT is first. */
public final class EdgeTextTest {
    private static final String START = "place w;place h;person p w;deed d;promise x p d w 1 2 1;promise y p d w 1 2 1;";
    private static final String[] TOLD = {"hours", "place", "way", "frog", "person", "deed", "promise", "each", "unless",
        "vow", "goes", "does", "says", "hour", "or", "and", "not", "bound", "open", "kept", "off", "broken", "of", "from",
        "till", "times", "number"};

    public static void main(String[] args) {
        everyByte();
        wordsAndNumbers();
        blanks();
        fullHouse();
        everyName();
        nothingStaysOfAFaultyText();
        nothingStaysOfAnOlderHouse();
        numbersOfAHouse();
        namesOfEachSort();
        pairs();
        oneMoreOfEachSort();
        theLeastOfOneToken();
        theFirstAlongTheText();
        theEnd();
        mostBytesOfAHouse();
        mostBytesOfADaybook();
        mostBytesOfASentence();
        toldWordsInADaybook();
        daybookLines();
        daybookNumbers();
        sentenceOnes();
        sentenceWithin();
        sentenceSigns();
        Check.done("EdgeTextTest");
    }

    /** Behind a whole LINE each byte begins nothing, but for blanks. */
    private static void everyByte() {
        for (int b = 0; b < 256; b++) {
            byte[] text = new byte[9];
            System.arraycopy("place w;".getBytes(), 0, text, 0, 8);
            text[8] = (byte) b;
            WellPromises x = new WellPromises();
            Check.tape(x, text);
            boolean blank = b == 32 || b == 10;
            Check.due("byte " + b + " behind a line", x.house(), blank ? 1 : -9);
            Check.due("its fault", x.fault(), blank ? 0 : 1);
            text[5] = (byte) b;
            text[8] = 32;
            Check.tape(x, text);
            Check.due("byte " + b + " between two words", x.house(), blank ? 1 : isOfAWord(b) ? -1 : -6);
            byte[] mid = "place awb;".getBytes();
            mid[7] = (byte) b;
            Check.tape(x, mid);
            int due = b >= 'a' && b <= 'z' ? 1 : b >= '0' && b <= '9' ? -7 : blank || b == ';' ? -9 : -8;
            Check.due("byte " + b + " within a word", x.house(), due);
        }
    }

    private static boolean isOfAWord(int b) {
        return b >= 'a' && b <= 'z' || b >= '0' && b <= '9';
    }

    private static void wordsAndNumbers() {
        WellPromises x = new WellPromises();
        Check.due("one letter", Check.house(x, "place a;"), 1);
        Check.due("seven letters", Check.house(x, "place zzzzzzz;place azzzzzz;place zzzzzza;"), 3);
        Check.houseFault("place zzzzzzzz;", 6, 1);
        Check.houseFault("place zzzzzzzzzzzzzzzzzzzzzzzz;", 6, 1);
        Check.houseFault("place zzzzzz1;", 6, 1);
        Check.houseFault("place 1zzzzzz;", 6, 1);
        Check.due("one digit", Check.house(x, "hours 9;"), 1);
        Check.due("two digits", Check.house(x, "hours 09;"), 1);
        Check.due("three digits", Check.house(x, "hours 009;"), 1);
        Check.due("they are nine", x.count(0), 9);
        Check.houseFault("hours 0009;", 6, 1);
        Check.houseFault("hours 00000000000000000009;", 6, 1);
        Check.houseFault("hours 9999;", 6, 1);
        Check.houseFault("hours 999;", 6, 2);
        Check.houseFault("hours 9a;", 6, 1);
        Check.houseFault("hours 42949672;", 6, 1);
        Check.houseFault("hours -9;", 6, 1);
        Check.houseFault("hours 9.0;", 7, 1);
        Check.houseFault("hoursx 9;", 0, 1);
        Check.houseFault("hour 9;", 0, 1);
    }

    private static void blanks() {
        WellPromises x = new WellPromises();
        Check.due("no bytes", x.house(), 0);
        Check.due("a blank alone", Check.house(x, " "), 0);
        Check.due("a line's end alone", Check.house(x, "\n"), 0);
        Check.due("blanks ahead and behind", Check.house(x, "\n\n  place \n w \n ;\n\n"), 1);
        Check.due("signs need none", Check.house(x, "place w;place h;frog w;"), 3);
        Check.houseFault("place w;\r", 8, 1);
        Check.houseFault("place w ; ;", 10, 1);
        Check.due("a sentence needs few", Check.sentence(x, "not(from<1or times>2)and\nnumber=0"), -1 - 9);
        Check.due("a number and a word are one", x.fault(), 1);
        Check.due("a sentence with none", Check.sentence(x, "not(from<1)and(times>2)"), 5);
    }

    private static String full() {
        StringBuilder text = new StringBuilder("hours 24;");
        for (char c = 'a'; c <= 'h'; c++) {
            text.append("place ").append(c).append(';');
        }
        for (String way : "ab bc cd de ef fg gh ha hb gb fb eb".split(" ")) {
            text.append("way ").append(way.charAt(0)).append(' ').append(way.charAt(1)).append(';');
        }
        for (char c : "hgfedc".toCharArray()) {
            text.append("frog ").append(c).append(';');
        }
        for (char c = 'i'; c <= 'l'; c++) {
            text.append("person ").append(c).append(' ').append((char) ('h' - (c - 'i'))).append(';');
        }
        for (char c = 'm'; c <= 'r'; c++) {
            text.append("deed ").append(c).append(';');
        }
        for (char c = 's'; c <= 'z'; c++) {
            int k = c - 's';
            text.append("promise ").append(c).append(' ').append((char) ('l' - k % 4)).append(' ')
                .append((char) ('r' - k % 6)).append(' ').append((char) ('h' - k)).append(' ').append(2 * k).append(' ')
                .append(16 + k).append(' ').append(1 + k % 3).append(k % 2 == 1 ? " each" : "")
                .append(k % 3 == 2 ? " unless " + (char) ('m' + k % 6) : "").append(';');
        }
        for (char c = 's'; c <= 'y'; c++) {
            text.append("vow ").append((char) (c + 1)).append(' ').append(c).append(';');
        }
        return text.append("vow s z;").toString();
    }

    /** As many of each sort as there may be, all in one text. */
    private static void fullHouse() {
        WellPromises x = new WellPromises();
        Check.due("lines of the full house", Check.house(x, full()), 1 + 8 + 12 + 6 + 4 + 6 + 8 + 8);
        int[] counts = {24, 8, 12, 6, 4, 6, 8, 8, 0};
        for (int what = 0; what < counts.length; what++) {
            Check.due("full count " + what, x.count(what), counts[what]);
        }
        for (int f = 0; f < 6; f++) {
            Check.due("full frog " + f, x.frog(f), 7 - f);
        }
        Check.due("no seventh frog", x.frog(6), -1);
        for (int p = 0; p < 4; p++) {
            Check.due("full person " + p, x.person(p, 0), 7 - p);
        }
        Check.due("no fifth person", x.person(4, 0), -1);
        for (int k = 0; k < 8; k++) {
            int[] due = {3 - k % 4, 5 - k % 6, 7 - k, 2 * k, 16 + k, 1 + k % 3, k % 2, k % 3 == 2 ? k % 6 : -1, -1, 0};
            for (int what = 0; what < due.length; what++) {
                Check.due("full promise " + k + " " + what, x.promise(k, what), due[what]);
            }
        }
        Check.due("all are one ring", x.rings(), 255);
        Check.due("one root", x.roots(), 1);
        int[] near = {0x82, 0xf5, 0x0a, 0x14, 0x2a, 0x52, 0xa2, 0x43};
        for (int a = 0; a < 8; a++) {
            for (int b = 0; b < 8; b++) {
                Check.due("a way " + a + " " + b, x.way(a, b) == 1, (near[a] >> b & 1) == 1);
            }
        }
    }

    private static void everyName() {
        WellPromises x = Check.with(full());
        for (int p = 0; p < 4; p++) {
            for (char deed = 'm'; deed <= 'r'; deed++) {
                Check.due("does " + deed, Check.daybook(x, (char) ('i' + p) + " does " + deed + ";", 1), -1);
                Check.due("its number", x.done(x.now(2) - 1, 2), deed - 'm');
                Check.due("its person", x.done(x.now(2) - 1, 1), p);
                x.hours(1);
            }
        }
        for (char promise = 's'; promise <= 'z'; promise++) {
            int k = promise - 's';
            String text = (char) ('l' - k % 4) + " says " + promise + ";";
            Check.due("says " + promise, Check.daybook(x, text, 1), -1);
            Check.due("when", x.promise(k, 8), 24);
            Check.due("said so far", x.now(3), k + 1);
        }
        Check.due("goes to the first place", Check.daybook(x, "i goes a;", 1), -1);
        Check.due("its place", x.person(0, 0), 0);
        for (String word : TOLD) {
            Check.houseFault("deed " + word + ";", 5, 1);
            Check.houseFault("place w;person " + word + " w;", 15, 1);
            Check.houseFault("place w;person p " + word + ";", 17, 1);
            Check.houseFault("place w;person p w;deed d;promise " + word + " p d w 1 2 1;", 34, 1);
            Check.due("a name that goes on behind " + word, Check.house(new WellPromises(), "place " + word + "x;"),
                word.length() < 7 ? 1 : -7);
        }
    }

    private static void nothingStaysOfAFaultyText() {
        WellPromises x = new WellPromises();
        String told = "hours 9;place a;place b;way a b;frog a;person p a;deed d;promise x p d a 1 2 1;"
            + "promise y p d a 1 2 1;vow x y;";
        for (int round = 0; round < 9; round++) {
            Check.due("a fault at the end", Check.house(x, told + "vow"), -1 - told.length() - 3);
        }
        Check.due("names are free again", Check.house(x, told), 10);
        Check.due("frogs", x.count(3), 1);
        Check.due("vows", x.count(7), 1);
        Check.due("ways", x.count(2), 1);
        Check.due("a fault behind hours", Check.house(x, "hours 5;hours 6;"), -9);
        Check.due("hours stay", x.count(0), 9);
        Check.due("hours may be told again", Check.house(x, "hours 5;"), 1);
        Check.due("hours are new", x.count(0), 5);
        Check.due("a fault behind 40 lines", Check.daybook(x, "hour 1;".repeat(41), 0), -2 - 280);
        Check.due("40 lines", Check.daybook(x, "hour 1;".repeat(40), 0), -1);
        Check.due("a fault behind 20 ones", Check.sentence(x, "off or ".repeat(20) + "off"), -1 - 140);
        Check.due("20 ones", Check.sentence(x, "off or ".repeat(19) + "off"), 20);
    }

    private static void nothingStaysOfAnOlderHouse() {
        WellPromises x = Check.with(full());
        Check.due("places alone", Check.house(x, "place w;place h;place t;"), 3);
        int[] counts = {24, 3, 0, 0, 0, 0, 0, 0, 0};
        for (int what = 0; what < counts.length; what++) {
            Check.due("count " + what, x.count(what), counts[what]);
        }
        Check.due("no way", x.way(0, 1), -1);
        Check.due("all are dry", x.dry(), 7);
        Check.due("an old name", Check.house(x, "frog a;"), -6);
        Check.due("the old ways are gone", Check.house(x, "place a;place b;way a b;"), 3);
        Check.due("the old frogs are gone", Check.house(x, "place a;" + "frog a;".repeat(6)), 7);
        String four = "place a;person p a;deed d;promise s p d a 1 2 1;promise t p d a 1 2 1;";
        Check.due("the old vows are gone", Check.house(x, four), 5);
        Check.due("no chain", x.chain(0), 1);
        Check.due("no ring", x.rings(), 0);
        Check.due("a vow of old", Check.house(x, four + "vow t s;"), 6);
        x = Check.with(four.replace("1 2 1", "1 2 1 each unless d"));
        Check.house(x, four);
        Check.due("each is not told", x.promise(1, 6), 0);
        Check.due("unless is not told", x.promise(1, 7), -1);
    }

    private static void numbersOfAHouse() {
        for (int n = 0; n <= 30; n++) {
            WellPromises x = new WellPromises();
            boolean good = n >= 4 && n <= 24;
            Check.due("hours " + n, Check.house(x, "hours " + n + ";"), good ? 1 : -7);
            Check.due("fault", x.fault(), good ? 0 : 2);
            Check.due("count", x.count(0), good ? n : 24);
            int from = Check.house(x, "place w;person p w;deed d;promise x p d w " + n + " 23 1;");
            Check.due("from " + n, from, n <= 23 ? 4 : -43);
            Check.due("fault of from", x.fault(), n <= 23 ? 0 : 2);
            int till = Check.house(x, "place w;person p w;deed d;promise x p d w 7 " + n + " 1;");
            Check.due("till " + n, till, n >= 7 && n <= 23 ? 4 : -45);
            Check.due("fault of till", x.fault(), n >= 7 && n <= 23 ? 0 : 2);
            int times = Check.house(x, "place w;person p w;deed d;promise x p d w 7 8 " + n + ";");
            Check.due("times " + n, times, n >= 1 && n <= 3 ? 4 : -47);
            Check.due("fault of times", x.fault(), n >= 1 && n <= 3 ? 0 : 2);
        }
        WellPromises x = Check.with("hours 4;place w;person p w;deed d;promise x p d w 23 23 1;");
        Check.due("from behind the hours", x.promise(0, 3), 23);
        x = Check.with("place w;person p w;deed d;promise x p d w 20 23 1;hours 4;");
        Check.due("hours told last", x.count(0), 4);
        Check.due("till as told", x.promise(0, 4), 23);
    }

    /** At each place of a NAME: one that was not told, and one of each other sort. */
    private static void namesOfEachSort() {
        String[] sorts = {"w", "p", "d", "x"};
        String[][] lines = {{"way ", "0", " h;"}, {"way h ", "0", ";"}, {"frog ", "0", ";"}, {"person q ", "0", ";"},
            {"promise z ", "1", " d w 1 2 1;"}, {"promise z p ", "2", " w 1 2 1;"}, {"promise z p d ", "0", " 1 2 1;"},
            {"promise z p d w 1 2 1 unless ", "2", ";"}, {"vow ", "3", " y;"}, {"vow y ", "3", ";"}};
        for (String[] line : lines) {
            int right = Integer.parseInt(line[1]);
            for (int sort = 0; sort < 4; sort++) {
                String text = START + line[0] + sorts[sort] + line[2];
                if (sort == right) {
                    Check.due("house '" + text + "'", Check.house(new WellPromises(), text), 7);
                } else {
                    Check.houseFault(text, START.length() + line[0].length(), 3);
                }
            }
            Check.houseFault(START + line[0] + "nil" + line[2], START.length() + line[0].length(), 3);
            Check.houseFault(START + line[0] + "7" + line[2], START.length() + line[0].length(), 1);
            Check.houseFault(START + line[0] + "frog" + line[2], START.length() + line[0].length(), 1);
            Check.houseFault(START + line[0], START.length() + line[0].length(), 1);
        }
        String[] news = {"place ", "deed ", "person ", "promise "};
        for (String line : news) {
            for (String sort : sorts) {
                Check.houseFault(START + line + sort, START.length() + line.length(), 3);
            }
        }
    }

    private static void pairs() {
        String places = "place a;place b;place c;";
        Check.houseFault(places + "way a a;", 30, 3);
        Check.houseFault(places + "way c c;", 30, 3);
        Check.houseFault(places + "way c b;way b c;", 38, 3);
        Check.houseFault(places + "way c b;way c b;", 38, 3);
        Check.houseFault(places + "way a b;way b c;way a c;way b a;", 54, 3);
        Check.due("three ways", Check.house(new WellPromises(), places + "way a b;way c b;way c a;"), 6);
        Check.houseFault(START + "vow y y;", START.length() + 6, 3);
        Check.houseFault(START + "vow y x;vow y x;", START.length() + 14, 3);
        Check.houseFault(START + "vow x y;vow y x;vow x y;", START.length() + 22, 3);
        Check.due("both orders", Check.house(new WellPromises(), START + "vow y x;vow x y;"), 8);
        Check.due("two frogs in one place", Check.house(new WellPromises(), "place a;frog a;frog a;"), 3);
    }

    /** Also if the LINE that is one too many is else without a FAULT, and if it has one further on. */
    private static void oneMoreOfEachSort() {
        String full = full();
        String[] more = {"place aa;", "way a c;", "frog a;", "person aa a;", "deed aa;", "promise aa i m a 1 2 1;", "vow s u;"};
        for (String line : more) {
            Check.houseFault(full + line, full.length(), 4);
            Check.houseFault(full + " " + line, full.length() + 1, 4);
            String first = line.substring(0, line.indexOf(' '));
            Check.houseFault(full + first, full.length(), 4);
            Check.houseFault(full + first + " 7", full.length(), 4);
        }
        Check.houseFault(full + "hours 8;", full.length(), 3);
        Check.houseFault(full + "each", full.length(), 1);
    }

    private static void theLeastOfOneToken() {
        WellPromises x = Check.with(START);
        String forty = "hour 1;".repeat(40);
        Check.daybookFault(x, forty + ";", 280, 1);
        Check.daybookFault(x, forty + "7", 280, 1);
        Check.daybookFault(x, forty + "goes", 280, 1);
        Check.daybookFault(x, forty + "w goes h;", 280, 3);
        Check.daybookFault(x, forty + "nil goes h;", 280, 3);
        Check.daybookFault(x, forty + "p goes h;", 280, 4);
        Check.daybookFault(x, forty + "hour 1;", 280, 4);
        Check.daybookFault(x, forty + "hour 0;", 280, 4);
        String twenty = "off or ".repeat(20);
        Check.sentenceFault(x, twenty + "nil", 140, 1);
        Check.sentenceFault(x, twenty + ")", 140, 1);
        Check.sentenceFault(x, twenty + "(", 140, 4);
        Check.sentenceFault(x, twenty + "not", 140, 4);
        Check.sentenceFault(x, twenty + "from", 140, 4);
        Check.sentenceFault(x, "((((((((and", 8, 1);
        Check.sentenceFault(x, "((((((((of nil", 8, 4);
    }

    private static void theFirstAlongTheText() {
        Check.houseFault("hours 3;place 7;", 6, 2);
        Check.houseFault("place 7;hours 3;", 6, 1);
        Check.houseFault("place w;place w 7;", 14, 3);
        Check.houseFault("place w;frog h 7;", 13, 3);
        Check.houseFault("place w;way w w w;", 14, 3);
        Check.houseFault("place w;person p w;deed d;promise x p d w 5 4 9;", 44, 2);
        Check.houseFault("place w;person p w;deed d;promise x p d w 24 4 9;", 42, 2);
        Check.houseFault("place w;person p w;deed d;promise x p w d 24 4 9;", 38, 3);
        Check.houseFault("hours 8;hours 3;", 8, 3);
        Check.houseFault("hours 8 ;hours", 9, 3);
        WellPromises x = Check.with(START);
        Check.daybookFault(x, "p goes nil hour 0;", 7, 3);
        Check.daybookFault(x, "hour 0;nil", 5, 2);
        Check.daybookFault(x, "p goes h p", 9, 1);
        Check.sentenceFault(x, "of nil and nil", 3, 3);
        Check.sentenceFault(x, "nil and of nil", 0, 1);
    }

    /** A text that ends within a LINE has its FAULT behind its last byte, blanks counted. */
    private static void theEnd() {
        String line = "place w;person p w;deed d;promise x p d w 1 2 1 each unless d;promise y p d w 1 2 1;vow x y;";
        WellPromises good = new WellPromises();
        Check.due("whole", Check.house(good, line), 6);
        for (int n = 0; n < line.length(); n++) {
            String text = line.substring(0, n);
            boolean whole = n == 0 || line.charAt(n - 1) == ';';
            WellPromises x = new WellPromises();
            int lines = (int) text.chars().filter(c -> c == ';').count();
            if (whole) {
                Check.due("house '" + text + "'", Check.house(x, text), lines);
                Check.due("with blanks", Check.house(x, text + " \n "), lines);
            } else if (line.charAt(n) == ' ' || line.charAt(n) == ';') {
                Check.houseFault(text, n, 1);
                Check.houseFault(text + " \n ", n + 3, 1);
            }
        }
        WellPromises x = Check.with(START);
        String book = "p goes h;p does d;p says x;hour 1;";
        for (int n = 1; n < book.length(); n++) {
            if (book.charAt(n) == ' ' || book.charAt(n) == ';') {
                Check.daybookFault(x, book.substring(0, n), n, 1);
                Check.daybookFault(x, book.substring(0, n) + "\n", n + 1, 1);
            }
        }
        for (String open : new String[] {"", "not", "(", "(off", "off or", "off and", "of", "from", "till <", "number =", "((off)"}) {
            Check.sentenceFault(x, open, open.length(), 1);
            Check.sentenceFault(x, open + " \n", open.length() + 2, 1);
        }
    }

    private static void mostBytesOfAHouse() {
        for (int n = 895; n <= 905; n++) {
            WellPromises x = new WellPromises();
            Check.due("blanks of " + n, Check.house(x, " ".repeat(n)), n <= 900 ? 0 : -901);
            Check.due("their fault", x.fault(), n <= 900 ? 0 : 1);
            Check.due("a line that ends at " + n, Check.house(x, " ".repeat(n - 8) + "place w;"), n <= 900 ? 1 : -901);
            Check.due("its fault", x.fault(), n <= 900 ? 0 : 1);
            boolean ahead = n - 2 < 900;
            Check.due("a name not told that ends at " + n, Check.house(x, " ".repeat(n - 7) + "frog ww"), ahead ? -1 - (n - 2) : -901);
            Check.due("the name's fault", x.fault(), ahead ? 3 : 1);
            Check.due("a number that ends at " + n, Check.house(x, " ".repeat(n - 9) + "hours 999"), n - 3 < 900 ? -1 - (n - 3) : -901);
            Check.due("the number's fault", x.fault(), n - 3 < 900 ? 2 : 1);
            Check.due("eight letters that end at " + n, Check.house(x, " ".repeat(n - 14) + "place abcdefgh"),
                n - 8 < 900 ? -1 - (n - 8) : -901);
        }
        Check.houseFault("place a;".repeat(2) + " ".repeat(920), 14, 3);
        Check.houseFault(" ".repeat(940), 900, 1);
        Check.houseFault(" ".repeat(899) + "place", 900, 1);
        Check.houseFault(" ".repeat(899) + "nil", 899, 1);
        Check.houseFault(" ".repeat(899) + "\n;", 900, 1);
        String eight = "place a;place b;place c;place e;place f;place g;place h;place i;";
        Check.houseFault(eight + " ".repeat(899 - eight.length()) + "place", 899, 4);
        Check.houseFault(eight + " ".repeat(900 - eight.length()) + "place", 900, 1);
    }

    private static void mostBytesOfADaybook() {
        WellPromises x = null;
        for (int n = 496; n <= 504; n++) {
            x = Check.with(START);
            int whole = Check.daybook(x, " ".repeat(n - 7) + "hour 1;", 0);
            Check.due("a line that ends at " + n, whole, n <= 500 ? -1 : -502);
            Check.due("its fault", x.fault(), n <= 500 ? 0 : 1);
            int name = Check.daybook(x, " ".repeat(n - 3) + "nil", 0);
            Check.due("a name that ends at " + n, name, n - 3 < 500 ? -2 - (n - 3) : -502);
            Check.due("the name's fault", x.fault(), n - 3 < 500 ? 3 : 1);
        }
        Check.daybookFault(x, "p goes h;" + " ".repeat(492), 500, 1);
        Check.daybookFault(x, "hour 1;".repeat(40) + " ".repeat(219) + "hour", 499, 4);
        Check.daybookFault(x, "hour 1;".repeat(40) + " ".repeat(220) + "hour", 500, 1);
        Check.daybookFault(x, " ".repeat(940), 500, 1);
    }

    private static void mostBytesOfASentence() {
        WellPromises x = null;
        for (int n = 196; n <= 204; n++) {
            x = Check.with(START);
            int whole = Check.sentence(x, " ".repeat(n - 3) + "off");
            Check.due("a one that ends at " + n, whole, n <= 200 ? 1 : -201);
            Check.due("its fault", x.fault(), n <= 200 ? 0 : 1);
            int name = Check.sentence(x, " ".repeat(n - 6) + "of nil");
            Check.due("a name that ends at " + n, name, n - 3 < 200 ? -1 - (n - 3) : -201);
            Check.due("the name's fault", x.fault(), n - 3 < 200 ? 3 : 1);
            int blanks = Check.sentence(x, " ".repeat(n));
            Check.due("no one in " + n, blanks, -1 - Math.min(n, 200));
        }
        Check.sentenceFault(x, " ".repeat(940), 200, 1);
        Check.sentenceFault(x, "off or ".repeat(20) + " ".repeat(59) + "off", 199, 4);
        Check.sentenceFault(x, "off or ".repeat(20) + " ".repeat(60) + "off", 200, 1);
    }

    private static void toldWordsInADaybook() {
        WellPromises x = null;
        for (String word : TOLD) {
            x = Check.with(START);
            boolean verb = word.equals("goes") || word.equals("does") || word.equals("says");
            if (!word.equals("hour")) {
                Check.daybookFault(x, word + " goes h;", 0, 1);
            }
            if (!verb) {
                Check.daybookFault(x, "p " + word + " h;", 2, 1);
            }
            Check.daybookFault(x, "p goes " + word + ";", 7, 1);
            Check.daybookFault(x, "p does " + word + ";", 7, 1);
            Check.daybookFault(x, "p says " + word + ";", 7, 1);
            Check.sentenceFault(x, "of " + word, 3, 1);
        }
        for (String sort : new String[] {"w", "d", "x", "nil"}) {
            Check.daybookFault(x, sort + " goes h;", 0, 3);
            if (!sort.equals("w")) {
                Check.daybookFault(x, "p goes " + sort + ";", 7, 3);
            }
            if (!sort.equals("d")) {
                Check.daybookFault(x, "p does " + sort + ";", 7, 3);
            }
            if (!sort.equals("x")) {
                Check.daybookFault(x, "p says " + sort + ";", 7, 3);
            }
            Check.sentenceFault(x, "of " + sort, 3, 3);
        }
        Check.daybookFault(x, "p goes p;", 7, 3);
        Check.daybookFault(x, "p does p;", 7, 3);
        Check.daybookFault(x, "p says p;", 7, 3);
    }

    private static void daybookLines() {
        WellPromises x = Check.with(START);
        Check.due("no line", Check.daybook(x, "", 0), -1);
        Check.due("no line is wrong", x.booked(1), 0);
        Check.due("39", Check.daybook(x, "hour 1;".repeat(39), 0), -1);
        Check.due("39 lines", x.booked(1), 39);
        Check.due("40", Check.daybook(x, "hour 1;".repeat(40), 0), -1);
        Check.due("40 lines", x.booked(1), 40);
        Check.due("40 hours", x.booked(2), 40);
        Check.due("41", Check.daybook(x, "hour 1;".repeat(41), 0), -2 - 280);
        Check.due("the 40 lines stay", x.booked(1), 40);
    }

    private static void daybookNumbers() {
        WellPromises x = null;
        for (int n = 0; n <= 110; n++) {
            x = n % 50 == 0 ? Check.with(START) : x;
            boolean good = n >= 1 && n <= 99;
            Check.due("hour " + n, Check.daybook(x, "hour " + n + ";", 0), good ? -1 : -7);
            Check.due("fault of hour " + n, x.fault(), good ? 0 : 2);
        }
        Check.due("hour 001", Check.daybook(x, "hour 001;", 0), -1);
        Check.due("it is one", x.booked(2), 1);
        Check.daybookFault(x, "hour 0001;", 5, 1);
        Check.daybookFault(x, "hour 999;", 5, 2);
        Check.daybookFault(x, "hour p;", 5, 1);
        Check.daybookFault(x, "hour;", 4, 1);
        Check.daybookFault(x, "p 1;", 2, 1);
    }

    private static void sentenceOnes() {
        WellPromises x = Check.with(START);
        Check.due("one", Check.sentence(x, "off"), 1);
        Check.due("a not and its one", Check.sentence(x, "not off"), 2);
        Check.due("a bracket and its one", Check.sentence(x, "(off)"), 2);
        Check.due("a bracket and its two", Check.sentence(x, "(off or off)"), 3);
        Check.due("19 and one", Check.sentence(x, "off and ".repeat(19) + "off"), 20);
        Check.due("18 and a not", Check.sentence(x, "off and ".repeat(18) + "not off"), 20);
        Check.due("18 and a bracket", Check.sentence(x, "off and ".repeat(18) + "(off)"), 20);
        Check.due("ten brackets", Check.sentence(x, "(off)or ".repeat(9) + "(off)"), 20);
        Check.sentenceFault(x, "off and ".repeat(20) + "off", 160, 4);
        Check.sentenceFault(x, "off and ".repeat(19) + "not off", 156, 4);
        Check.sentenceFault(x, "off and ".repeat(19) + "(off)", 153, 4);
        Check.sentenceFault(x, "(off)or ".repeat(10) + "off", 80, 4);
        Check.sentenceFault(x, "off and ".repeat(19) + "off off", 156, 1);
        Check.sentenceFault(x, "off and ".repeat(19) + "off or", 158, 1);
    }

    private static void sentenceWithin() {
        WellPromises x = null;
        for (int nots = 0; nots < 12; nots++) {
            x = Check.with(START);
            for (int brackets = 0; brackets + nots < 12; brackets++) {
                int all = nots + brackets + 1;
                String text = "not ".repeat(nots) + "(".repeat(brackets) + "off" + ")".repeat(brackets);
                int ninth = nots > 8 ? 32 : 4 * nots + 8 - nots;
                Check.due("sentence " + text, Check.sentence(x, text), all <= 8 ? all : -1 - ninth);
                Check.due("its fault", x.fault(), all <= 8 ? 0 : 4);
                text = "(".repeat(brackets) + "not ".repeat(nots) + "off" + ")".repeat(brackets);
                ninth = brackets > 8 ? 8 : brackets + 4 * (8 - brackets);
                Check.due("sentence " + text, Check.sentence(x, text), all <= 8 ? all : -1 - ninth);
            }
        }
        String seven = "(((((((off)))))))";
        Check.due("beside each other is not within", Check.sentence(x, seven + "or" + seven), 16);
        Check.due("ands and ors are not within", Check.sentence(x, "((((((not off and off or not off))))))"), 11);
        Check.sentenceFault(x, seven + "or(" + seven + ")", 27, 4);
    }

    private static void sentenceSigns() {
        String house = "place w;person p w;deed d;promise x p d w 3 7 2;promise y p d w 23 23 1;";
        String[] words = {"from", "till", "times", "number"};
        int[][] values = {{3, 23}, {7, 23}, {2, 1}, {0, 1}};
        for (int k = 0; k < words.length; k++) {
            WellPromises x = Check.with(house);
            for (int n = 0; n <= 25; n++) {
                for (char sign : "<=>".toCharArray()) {
                    Check.due("sentence", Check.sentence(x, words[k] + sign + n), 1);
                    int count = 0;
                    for (int value : values[k]) {
                        count += sign == '<' && value < n || sign == '=' && value == n || sign == '>' && value > n ? 1 : 0;
                    }
                    Check.due("said of how many: " + words[k] + sign + n, x.said(-1), count);
                }
                if (n % 8 == 7) {
                    x = Check.with(house);
                }
            }
        }
        WellPromises x = Check.with(house);
        Check.due("the most", Check.sentence(x, "from < 999"), 1);
        Check.due("of both", x.said(-1), 2);
        Check.sentenceFault(x, "from < 1000", 7, 1);
        Check.sentenceFault(x, "from ; 1", 5, 1);
        Check.sentenceFault(x, "from ( 1)", 5, 1);
        Check.sentenceFault(x, "from ) 1", 5, 1);
        Check.sentenceFault(x, "from not 1", 5, 1);
        Check.sentenceFault(x, "from == 1", 6, 1);
        Check.sentenceFault(x, "from < from", 7, 1);
    }
}
