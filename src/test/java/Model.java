import java.util.ArrayList;
import java.util.HashMap;
import java.util.HashSet;
import java.util.List;
import java.util.Map;
import java.util.Set;

/** A second, slow WellPromises, written from the document with the Java library, to be compared with the class. */
final class Model {
    static final class Fault extends RuntimeException {
        private static final long serialVersionUID = 1L;
        final int place;
        final int kind;

        Fault(int place, int kind) {
            this.place = place;
            this.kind = kind;
        }
    }

    record Token(String text, int place, boolean good) {
        boolean isNumber() {
            return good && Character.isDigit(text.charAt(0));
        }

        boolean isWord() {
            return good && Character.isLetter(text.charAt(0));
        }
    }

    record Name(String sort, int number) {
    }

    record Promise(int person, int deed, int place, int from, int till, int times, boolean each, int unless) {
    }

    record Deed(int when, int person, int deed, int place) {
    }

    static final Set<String> TOLD = Set.of("hours", "place", "way", "frog", "person", "deed", "promise", "each", "unless",
        "vow", "goes", "does", "says", "hour", "or", "and", "not", "bound", "open", "kept", "off", "broken", "of", "from",
        "till", "times", "number");

    int hours = 24;
    int lines = 0;
    Map<String, Name> names = new HashMap<>();
    int places = 0;
    Set<List<Integer>> ways = new HashSet<>();
    List<Integer> frogs = new ArrayList<>();
    List<Integer> at = new ArrayList<>();
    int deeds = 0;
    List<Promise> promises = new ArrayList<>();
    Set<List<Integer>> vows = new HashSet<>();

    int time = 0;
    Set<Integer> busy = new HashSet<>();
    List<Deed> done = new ArrayList<>();
    int[] went = new int[4];
    int[] saidWhen = {-1, -1, -1, -1, -1, -1, -1, -1};
    int[] saidWhere = new int[8];

    // ---- texts

    static List<Token> tokens(String text, int most) {
        List<Token> all = new ArrayList<>();
        int at = 0;
        while (true) {
            while (at < text.length() && " \n".indexOf(text.charAt(at)) >= 0) {
                at++;
            }
            if (text.length() > most && at >= most) {
                all.add(new Token("", most, false));
                return all;
            }
            if (at >= text.length()) {
                all.add(new Token("", text.length(), true));
                return all;
            }
            int end = at;
            while (end < text.length() && String.valueOf(text.charAt(end)).matches("[a-z0-9]")) {
                end++;
            }
            end = Math.max(end, at + 1);
            String token = text.substring(at, end);
            all.add(new Token(token, at, token.matches("[a-z]{1,7}|[0-9]{1,3}|[;<=>()]")));
            at = end;
        }
    }

    private List<Token> tokens;
    private int next;

    private Token take() {
        Token token = tokens.get(next++);
        if (!token.good) {
            throw new Fault(token.place, 1);
        }
        return token;
    }

    private Token peek() {
        return tokens.get(next);
    }

    private void want(String text) {
        Token token = take();
        if (!token.text.equals(text)) {
            throw new Fault(token.place, 1);
        }
    }

    private int number(int least, int most) {
        Token token = take();
        if (token.text.isEmpty() || !token.isNumber()) {
            throw new Fault(token.place, 1);
        }
        int number = Integer.parseInt(token.text);
        if (number < least || number > most) {
            throw new Fault(token.place, 2);
        }
        return number;
    }

    private Token name() {
        Token token = take();
        if (token.text.isEmpty() || !token.isWord() || TOLD.contains(token.text)) {
            throw new Fault(token.place, 1);
        }
        return token;
    }

    private String newName() {
        Token token = name();
        if (names.containsKey(token.text)) {
            throw new Fault(token.place, 3);
        }
        return token.text;
    }

    private int known(String sort) {
        Token token = name();
        Name name = names.get(token.text);
        if (name == null || !name.sort.equals(sort)) {
            throw new Fault(token.place, 3);
        }
        return name.number;
    }

    private int lastPlace() {
        return tokens.get(next - 1).place;
    }

    void readHouse(String text) {
        tokens = tokens(text, 900);
        next = 0;
        boolean hoursTold = false;
        while (!(peek().good && peek().text.isEmpty())) {
            Token first = take();
            switch (first.text) {
                case "hours" -> {
                    if (hoursTold) {
                        throw new Fault(first.place, 3);
                    }
                    hoursTold = true;
                    hours = number(4, 24);
                }
                case "place" -> {
                    limit(first, places, 8);
                    names.put(newName(), new Name("place", places++));
                }
                case "deed" -> {
                    limit(first, deeds, 6);
                    names.put(newName(), new Name("deed", deeds++));
                }
                case "way" -> {
                    limit(first, ways.size() / 2, 12);
                    int a = known("place");
                    int b = known("place");
                    if (a == b || ways.contains(List.of(a, b))) {
                        throw new Fault(lastPlace(), 3);
                    }
                    ways.add(List.of(a, b));
                    ways.add(List.of(b, a));
                }
                case "frog" -> {
                    limit(first, frogs.size(), 6);
                    frogs.add(known("place"));
                }
                case "person" -> {
                    limit(first, at.size(), 4);
                    String name = newName();
                    int place = known("place");
                    names.put(name, new Name("person", at.size()));
                    at.add(place);
                }
                case "promise" -> {
                    limit(first, promises.size(), 8);
                    readPromise();
                }
                case "vow" -> {
                    limit(first, vows.size(), 8);
                    int a = known("promise");
                    int b = known("promise");
                    if (a == b || !vows.add(List.of(a, b))) {
                        throw new Fault(lastPlace(), 3);
                    }
                }
                default -> throw new Fault(first.place, 1);
            }
            want(";");
            lines++;
        }
    }

    private static void limit(Token first, int there, int most) {
        if (there == most) {
            throw new Fault(first.place, 4);
        }
    }

    private void readPromise() {
        String name = newName();
        int person = known("person");
        int deed = known("deed");
        int place = known("place");
        int from = number(0, 23);
        int till = number(from, 23);
        int times = number(1, 3);
        boolean each = false;
        int unless = -1;
        if (peek().text.equals("each")) {
            take();
            each = true;
        }
        if (peek().text.equals("unless")) {
            take();
            unless = known("deed");
        }
        names.put(name, new Name("promise", promises.size()));
        promises.add(new Promise(person, deed, place, from, till, times, each, unless));
    }

    /** Each LINE as sort, PERSON, number. */
    List<int[]> readDaybook(String text) {
        tokens = tokens(text, 500);
        next = 0;
        List<int[]> book = new ArrayList<>();
        while (!(peek().good && peek().text.isEmpty())) {
            Token first = peek();
            if (first.text.equals("hour")) {
                take();
                limit(first, book.size(), 40);
                book.add(new int[] {3, -1, number(1, 99)});
            } else {
                int person = known("person");
                limit(first, book.size(), 40);
                Token verb = take();
                switch (verb.text) {
                    case "goes" -> book.add(new int[] {0, person, known("place")});
                    case "does" -> book.add(new int[] {1, person, known("deed")});
                    case "says" -> book.add(new int[] {2, person, known("promise")});
                    default -> throw new Fault(verb.place, 1);
                }
            }
            want(";");
        }
        return book;
    }

    interface Cond {
        boolean of(int p);
    }

    int ones;

    Cond readSentence(String text) {
        tokens = tokens(text, 200);
        next = 0;
        ones = 0;
        Cond cond = cond(0);
        Token end = take();
        if (!end.text.isEmpty()) {
            throw new Fault(end.place, 1);
        }
        return cond;
    }

    private Cond cond(int within) {
        Cond cond = all(within);
        while (peek().text.equals("or")) {
            take();
            Cond left = cond;
            Cond right = all(within);
            cond = p -> left.of(p) | right.of(p);
        }
        return cond;
    }

    private Cond all(int within) {
        Cond cond = one(within);
        while (peek().text.equals("and")) {
            take();
            Cond left = cond;
            Cond right = one(within);
            cond = p -> left.of(p) & right.of(p);
        }
        return cond;
    }

    private Cond one(int within) {
        Token first = take();
        if (!Set.of("not", "(", "bound", "open", "kept", "off", "broken", "of", "from", "till", "times", "number")
                .contains(first.text)) {
            throw new Fault(first.place, 1);
        }
        ones++;
        if (ones == 21 || within == 8) {
            throw new Fault(first.place, 4);
        }
        switch (first.text) {
            case "not":
                Cond other = one(within + 1);
                return p -> !other.of(p);
            case "(":
                Cond inner = cond(within + 1);
                want(")");
                return inner;
            case "bound":
                return p -> status(p, 0) != 0;
            case "open":
                return p -> status(p, 0) == 1;
            case "kept":
                return p -> status(p, 0) == 2;
            case "off":
                return p -> status(p, 0) == 3;
            case "broken":
                return p -> status(p, 0) == 4;
            case "of":
                int person = known("person");
                return p -> promises.get(p).person == person;
            default:
                Token sign = take();
                if (!Set.of("<", "=", ">").contains(sign.text)) {
                    throw new Fault(sign.place, 1);
                }
                int number = number(0, 999);
                return p -> compared(value(p, first.text), sign.text, number);
        }
    }

    private int value(int p, String what) {
        Promise promise = promises.get(p);
        return switch (what) {
            case "from" -> promise.from;
            case "till" -> promise.till;
            case "times" -> promise.times;
            default -> p;
        };
    }

    private static boolean compared(int value, String sign, int number) {
        return sign.equals("<") ? value < number : sign.equals(">") ? value > number : value == number;
    }

    // ---- what is so

    Model copy() {
        Model m = new Model();
        m.hours = hours;
        m.lines = lines;
        m.names = names;
        m.places = places;
        m.ways = ways;
        m.frogs = frogs;
        m.at = new ArrayList<>(at);
        m.deeds = deeds;
        m.promises = promises;
        m.vows = vows;
        m.time = time;
        m.busy = new HashSet<>(busy);
        m.done = new ArrayList<>(done);
        m.went = went.clone();
        m.saidWhen = saidWhen.clone();
        m.saidWhere = saidWhere.clone();
        return m;
    }

    boolean over() {
        return time == 20 * hours;
    }

    int whyGo(int p, int place) {
        return busy.contains(p) ? 1 : !ways.contains(List.of(at.get(p), place)) ? 2 : over() ? 3 : 0;
    }

    int go(int p, int place) {
        int why = whyGo(p, place);
        if (why == 0) {
            at.set(p, place);
            busy.add(p);
            went[p]++;
        }
        return why;
    }

    int act(int p, int deed) {
        int why = busy.contains(p) ? 1 : over() ? 3 : done.size() == 80 ? 4 : 0;
        if (why == 0) {
            done.add(new Deed(time, p, deed, at.get(p)));
            busy.add(p);
        }
        return why;
    }

    int say(int p, int k) {
        int why = over() ? 3 : promises.get(k).person != p ? 5 : saidWhen[k] >= 0 ? 6 : 0;
        if (why == 0) {
            saidWhen[k] = time;
            saidWhere[k] = at.get(p);
        }
        return why;
    }

    int hours(int n) {
        int gone = 0;
        while (gone < n && !over()) {
            time++;
            gone++;
            busy.clear();
        }
        return gone;
    }

    int drawn(int n, int seed) {
        int[] x = {seed};
        int gone = 0;
        while (gone < n && !over()) {
            for (int p = 0; p < at.size(); p++) {
                int sort = draw(x, 3);
                if (sort == 0) {
                    go(p, draw(x, places));
                } else if (sort == 1 && deeds > 0) {
                    act(p, draw(x, deeds));
                } else if (sort == 2 && !promises.isEmpty()) {
                    say(p, draw(x, promises.size()));
                }
            }
            gone += hours(1);
        }
        return gone;
    }

    private static int draw(int[] x, int n) {
        x[0] = x[0] * 1103515245 + 12345;
        return (x[0] >>> 8) % n;
    }

    // ---- what comes of PROMISES

    boolean bound(int k) {
        return saidWhen[k] >= 0 && frogs.contains(saidWhere[k]);
    }

    /** Whether an HOUR of a DAY (the DAY's first one is 0) is not behind the window. */
    private boolean notBehind(int k, int reading, int hour) {
        Promise p = promises.get(k);
        boolean without = (reading & 1) != 0;
        if (without && p.from == p.till) {
            return hour <= p.from - 1;
        }
        return hour <= (without ? p.till - 1 : p.till);
    }

    private boolean inWindow(int k, int reading, int hour) {
        Promise p = promises.get(k);
        return hour >= p.from && hour < hours && ((reading & 1) != 0 ? hour < p.till : hour <= p.till);
    }

    boolean due(int k, int reading, int day) {
        int saidDay = saidWhen[k] / hours;
        int first = notBehind(k, reading, saidWhen[k] % hours) ? saidDay : saidDay + 1;
        return day == first || promises.get(k).each && day > first;
    }

    int counts(int k, int reading, int day) {
        Promise p = promises.get(k);
        int count = 0;
        for (Deed d : done) {
            boolean there = d.place == p.place || (reading & 4) != 0 && ways.contains(List.of(p.place, d.place));
            if (d.person == p.person && d.deed == p.deed && there && d.when / hours == day && d.when >= saidWhen[k]
                    && inWindow(k, reading, d.when % hours)) {
                count++;
            }
        }
        return count;
    }

    boolean kept(int k, int reading, int day) {
        return counts(k, reading, day) >= promises.get(k).times;
    }

    boolean off(int k, int reading, int day) {
        Promise p = promises.get(k);
        for (Deed d : done) {
            if (d.deed == p.unless && d.when / hours == day && d.when >= saidWhen[k]
                    && notBehind(k, reading, d.when % hours) && ((reading & 2) == 0 || d.person == p.person)) {
                return true;
            }
        }
        return false;
    }

    boolean windowOver(int k, int reading, int day) {
        if (time >= (day + 1) * hours) {
            return true;
        }
        return time / hours == day && !notBehind(k, reading, time % hours);
    }

    int broken(int k, int reading) {
        if (!bound(k)) {
            return -1;
        }
        for (int day = 0; day < 20; day++) {
            if (due(k, reading, day) && windowOver(k, reading, day) && !kept(k, reading, day) && !off(k, reading, day)) {
                return day;
            }
        }
        return -1;
    }

    int status(int k, int reading) {
        if (!bound(k)) {
            return 0;
        }
        if (broken(k, reading) >= 0) {
            return 4;
        }
        if (promises.get(k).each) {
            return 1;
        }
        for (int day = 0; day < 20; day++) {
            if (due(k, reading, day)) {
                return kept(k, reading, day) ? 2 : off(k, reading, day) ? 3 : 1;
            }
        }
        return 1;
    }

    int asks(int k, int reading) {
        int day = time / hours;
        if (!bound(k) || day == 20 || !due(k, reading, day)) {
            return -1;
        }
        return Math.max(0, promises.get(k).times - counts(k, reading, day));
    }

    int brokenCount() {
        int count = 0;
        for (int k = 0; k < promises.size(); k++) {
            count += status(k, 0) == 4 ? 1 : 0;
        }
        return count;
    }

    // ---- PLANS, by trying all

    List<Integer> dueToday(int p) {
        List<Integer> all = new ArrayList<>();
        for (int k = 0; k < promises.size(); k++) {
            if (promises.get(k).person == p && bound(k) && due(k, 0, time / hours)) {
                all.add(k);
            }
        }
        return all;
    }

    private int fewest;
    List<Integer> best;

    int plan(int p, List<Integer> which) {
        fewest = Integer.MAX_VALUE;
        best = null;
        tryHour(p, which, time % hours, at.get(p), new ArrayList<>(), 0);
        return best == null ? -1 : fewest;
    }

    /** In the order in which like ones come, so that a later one must have fewer goings. */
    private void tryHour(int p, List<Integer> which, int hour, int place, List<Integer> steps, int goings) {
        if (goings >= fewest) {
            return;
        }
        if (hour == hours) {
            for (int k : which) {
                if (!kept(k, 0, time / hours)) {
                    return;
                }
            }
            fewest = goings;
            best = new ArrayList<>(steps);
            return;
        }
        steps.add(0);
        tryHour(p, which, hour + 1, place, steps, goings);
        if (hour > time % hours || !busy.contains(p)) {
            for (int q = 0; q < places; q++) {
                if (ways.contains(List.of(place, q))) {
                    steps.set(steps.size() - 1, 100 + q);
                    tryHour(p, which, hour + 1, q, steps, goings + 1);
                }
            }
            for (int deed = 0; deed < deeds; deed++) {
                steps.set(steps.size() - 1, 200 + deed);
                done.add(new Deed(time / hours * hours + hour, p, deed, place));
                tryHour(p, which, hour + 1, place, steps, goings);
                done.remove(done.size() - 1);
            }
        }
        steps.remove(steps.size() - 1);
    }

    int quarrel(int p) {
        List<Integer> all = dueToday(p);
        if (plan(p, all) >= 0) {
            return 0;
        }
        int found = 0;
        for (int bits = 1; bits < 256; bits++) {
            List<Integer> some = new ArrayList<>();
            for (int k = 0; k < 8; k++) {
                if ((bits >> k & 1) == 1 && all.contains(k)) {
                    some.add(k);
                }
            }
            boolean fewer = found == 0 || Integer.bitCount(bits) < Integer.bitCount(found);
            if (some.size() == Integer.bitCount(bits) && fewer && plan(p, some) < 0) {
                found = bits;
            }
        }
        return found;
    }

    // ---- vows, frogs, ways, WINDOWS

    Set<Integer> chain(int k) {
        Set<Integer> all = new HashSet<>();
        List<Integer> open = new ArrayList<>(List.of(k));
        while (!open.isEmpty()) {
            int second = open.remove(0);
            for (List<Integer> vow : vows) {
                if (vow.get(1) == second && all.add(vow.get(0))) {
                    open.add(vow.get(0));
                }
            }
        }
        return all;
    }

    static int bits(Set<Integer> set) {
        int bits = 0;
        for (int k : set) {
            bits |= 1 << k;
        }
        return bits;
    }

    int chainBits(int k) {
        return bits(chain(k)) | 1 << k;
    }

    int rings() {
        int bits = 0;
        for (int k = 0; k < promises.size(); k++) {
            bits |= chain(k).contains(k) ? 1 << k : 0;
        }
        return bits;
    }

    int roots() {
        int whole = (1 << promises.size()) - 1;
        for (int size = 0; size <= promises.size(); size++) {
            for (int bits = 0; bits <= whole; bits++) {
                int reached = 0;
                for (int k = 0; k < promises.size(); k++) {
                    reached |= (bits >> k & 1) == 1 ? chainBits(k) : 0;
                }
                if (Integer.bitCount(bits) == size && reached == whole) {
                    return bits;
                }
            }
        }
        return -1;
    }

    int knows(int f, int k) {
        int[] when = new int[frogs.size()];
        for (int g = 0; g < when.length; g++) {
            when[g] = saidWhen[k] >= 0 && frogs.get(g) == saidWhere[k] ? saidWhen[k] : Integer.MAX_VALUE;
        }
        for (int round = 0; round < 10; round++) {
            for (int g = 0; g < when.length; g++) {
                for (int h = 0; h < when.length; h++) {
                    boolean near = frogs.get(g).equals(frogs.get(h)) || ways.contains(List.of(frogs.get(g), frogs.get(h)));
                    if (near && when[h] != Integer.MAX_VALUE && when[h] + 1 < when[g]) {
                        when[g] = when[h] + 1;
                    }
                }
            }
        }
        return when[f] == Integer.MAX_VALUE ? -1 : when[f];
    }

    int heard(int k) {
        int bits = 0;
        for (int f = 0; f < frogs.size(); f++) {
            int when = knows(f, k);
            bits |= when >= 0 && when <= time ? 1 << f : 0;
        }
        return bits;
    }

    int way(int a, int b) {
        Set<Integer> reached = new HashSet<>(Set.of(a));
        for (int steps = 0; steps < 10; steps++) {
            if (reached.contains(b)) {
                return steps;
            }
            for (List<Integer> way : ways) {
                if (reached.contains(way.get(0)) && steps < 10) {
                    reached = new HashSet<>(reached);
                    reached.add(way.get(1) + 100);
                }
            }
            Set<Integer> wider = new HashSet<>();
            for (int place : reached) {
                wider.add(place % 100);
            }
            reached = wider;
        }
        return -1;
    }

    int dry() {
        int bits = 0;
        for (int place = 0; place < places; place++) {
            bits |= frogs.contains(place) ? 0 : 1 << place;
        }
        return bits;
    }

    private boolean fits(int p, int deed, int place, int from, int till) {
        for (int day = 0; day < time / hours; day++) {
            boolean was = false;
            for (Deed d : done) {
                was |= d.person == p && d.deed == deed && d.place == place && d.when / hours == day
                    && d.when % hours >= from && d.when % hours <= till;
            }
            if (!was) {
                return false;
            }
        }
        return true;
    }

    int windows(int p, int deed, int place) {
        int count = 0;
        for (int till = 0; till < hours; till++) {
            for (int from = 0; from <= till; from++) {
                count += fits(p, deed, place, from, till) ? 1 : 0;
            }
        }
        return count;
    }

    int shortest(int p, int deed, int place) {
        int found = -1;
        int size = 99;
        for (int from = 0; from < hours; from++) {
            for (int till = from; till < hours; till++) {
                if (fits(p, deed, place, from, till) && till - from < size) {
                    size = till - from;
                    found = 100 * from + till;
                }
            }
        }
        return found;
    }
}
