import java.io.IOException;
import java.nio.file.Files;
import java.nio.file.Path;
import java.util.ArrayList;
import java.util.List;
import java.util.regex.Matcher;
import java.util.regex.Pattern;

/**
 * The calls that README.md shows: what stands between "shown" and "end" is, but for the lines that begin with "same(",
 * line by line what README.md has in its Java blocks; so neither can change alone.
 */
public final class ReadmeTest {
    private static final List<String> TOLD = new ArrayList<>();

    public static void main(String[] args) throws IOException {
        shownCalls();
        List<String> readme = readmeLines();
        List<String> test = testLines();
        Check.due("lines shown", readme.size() > 50, true);
        Check.due("lines of the test", test.size(), readme.size());
        for (int k = 0; k < Math.min(readme.size(), test.size()); k++) {
            Check.due("README.md '" + readme.get(k) + "' is '" + test.get(k) + "'", readme.get(k).equals(test.get(k)), true);
        }
        Check.due("answers " + answersOf(readme) + " as tested " + TOLD, answersOf(readme).equals(TOLD), true);
        everyCallIsNamed();
        Check.done("ReadmeTest");
    }

    private static void same(Object got, Object want) {
        TOLD.add(want.toString());
        Check.due("call " + TOLD.size() + " of README.md: " + got + " is " + want, got.equals(want), true);
    }

    // shown
    static void put(WellPromises well, String text) {
        well.end(0);
        for (int at = 0; at < text.length(); at += 20) {
            well.feed(four(text, at), four(text, at + 4), four(text, at + 8), four(text, at + 12), four(text, at + 16));
        }
        well.end(text.length());
    }

    static int four(String text, int at) {
        int number = 0;
        for (int i = at; i < at + 4; i++) {
            number = number << 8 | (i < text.length() ? text.charAt(i) : 0);
        }
        return number;
    }
    // end

    private static void shownCalls() {
        // shown
        WellPromises well = new WellPromises();
        put(well, "hours 8; place well; place home; way well home; frog well; person ann well; person ben home;"
            + "deed water; deed bread; promise fetch ann water home 2 5 1 unless bread;"
            + "promise bake ben bread home 0 7 2 each; vow fetch bake;");
        int lines = well.house();           // 12: so many LINES; all is numbered from 0 as it was told
        same(lines, 12);
        int said = well.say(0, 0);          // 0: ann said fetch
        same(said, 0);
        int bound = well.promise(0, 9);     // 1: a frog was there, so she is bound
        same(bound, 1);
        int asked = well.asks(0, 0);        // 1: water is to be brought home once yet today
        same(asked, 1);
        int goings = well.plan(0);          // 1: all that is due from her today can be kept with one going
        same(goings, 1);
        int idle = well.step(0);            // 0: by that plan she stays in hour 0
        same(idle, 0);
        int leaves = well.step(4);          // 101: she goes to place 1 in hour 4
        same(leaves, 101);
        int brings = well.step(5);          // 200: she does deed 0 in hour 5
        same(brings, 200);
        int went = well.go(0, 1);           // 0: she goes home now
        same(went, 0);
        int busy = well.act(0, 0);          // 1: not in the same hour
        same(busy, 1);
        int passed = well.hours(2);         // 2: so many hours went by
        same(passed, 2);
        int did = well.act(0, 0);           // 0: done
        same(did, 0);
        int status = well.status(0, 0);     // 2: kept (0 not bound, 1 open, 3 let off, 4 broken)
        same(status, 2);

        boolean kept = well.image(0);       // true: all that is so is kept in place 0
        same(kept, true);
        int more = well.undo();             // 3: her deed is undone; say(), go() and hours() still can be
        same(more, 3);
        int on = well.hours(4);             // 4
        same(on, 4);
        int later = well.status(0, 0);      // 4: broken, as the window 2 to 5 is over
        same(later, 4);
        int by = well.readings(0, 4);       // 255: by all eight readings, as bits
        same(by, 255);
        int day = well.broken(0, 0);        // 0: on day 0
        same(day, 0);
        boolean back = well.restore(0);     // true: as it was when image(0) was called
        same(back, true);
        int again = well.status(0, 0);      // 2
        same(again, 2);
        int chain = well.chain(1);          // 3: who breaks bake breaks fetch, too, by the vow
        same(chain, 3);

        put(well, "ben goes well; ben says bake; hour 6; ann says bake; hour 1;");
        int wrong = well.daybook(0);        // 3: this line is wrong; daybook(1) would live the three ahead of it
        same(wrong, 3);
        int why = well.booked(0);           // 5: the promise is another one's
        same(why, 5);
        int then = well.booked(2);          // 8: when it is then: 'hours' times the day, and the hour
        same(then, 8);
        int broken = well.booked(3);        // 1: bake is broken then
        same(broken, 1);
        put(well, "bound and not broken or number = 1");
        int ones = well.sentence();         // 4: 'bound', 'not', 'broken' and 'number = 1'
        same(ones, 4);
        int many = well.said(-1);           // 2: it may be said of so many promises
        same(many, 2);
        int which = well.said(1);           // 1: and of them this is number 1
        same(which, 1);

        put(well, "place well; place well;");
        int fails = well.house();           // -19: -1 less the place of the fault; the house stays
        same(fails, -19);
        int kind = well.fault();            // 3: a name told twice
        same(kind, 3);
        int noSuch = well.status(9, 0);     // -1: there is no promise 9
        same(noSuch, -1);
        int thrown = 0;
        try {
            well.promise(9, 0);
        } catch (java.util.NoSuchElementException e) {
            thrown = 1;                     // 1: the one call that throws
        }
        same(thrown, 1);
        // end
    }

    private static List<String> readmeLines() throws IOException {
        List<String> shown = new ArrayList<>();
        boolean inside = false;
        for (String line : Files.readAllLines(Path.of("README.md"))) {
            if (line.startsWith("```")) {
                inside = line.equals("```java");
            } else if (inside && !line.isBlank()) {
                shown.add(line.trim());
            }
        }
        return shown;
    }

    private static List<String> testLines() throws IOException {
        List<String> shown = new ArrayList<>();
        boolean inside = false;
        for (String line : Files.readAllLines(Path.of("src/test/java/ReadmeTest.java"))) {
            String bare = line.trim();
            if (bare.equals("// shown") || bare.equals("// end")) {
                inside = bare.equals("// shown");
            } else if (inside && !bare.isEmpty() && !bare.startsWith("same(")) {
                shown.add(bare);
            }
        }
        return shown;
    }

    /** The answers that stand behind the calls, in their order. */
    private static List<String> answersOf(List<String> lines) {
        List<String> answers = new ArrayList<>();
        Pattern answer = Pattern.compile(";\\s+// (-?\\w+)(:.*)?$");
        for (String line : lines) {
            Matcher m = answer.matcher(line);
            if (m.find()) {
                answers.add(m.group(1));
            }
        }
        return answers;
    }

    /** Each call of the face stands in the table of calls, once. */
    private static void everyCallIsNamed() throws IOException {
        String table = Files.readString(Path.of("README.md"));
        table = table.substring(table.indexOf("| calls |"), table.indexOf("## Tests"));
        List<String> named = new ArrayList<>();
        Matcher row = Pattern.compile("(?m)^\\| ([a-zA-Z, ]+) \\|").matcher(table);
        while (row.find()) {
            if (!row.group(1).equals("calls")) {
                named.addAll(List.of(row.group(1).split(", ")));
            }
        }
        List<String> face = new ArrayList<>();
        for (java.lang.reflect.Method method : WellPromises.class.getDeclaredMethods()) {
            if (java.lang.reflect.Modifier.isPublic(method.getModifiers())) {
                face.add(method.getName());
            }
        }
        named.sort(null);
        face.sort(null);
        Check.due("calls that README.md names: " + named + ", the face's: " + face, named.equals(face), true);
    }
}
