import java.util.ArrayList;
import java.util.List;
import java.util.Random;

/** Random texts and runs of calls: the class and the Model must answer alike. */
public final class OracleTest {
    private static final Random RANDOM = new Random(20261118);

    public static void main(String[] args) {
        houses();
        daybooksAndSentences();
        for (int run = 0; run < 400; run++) {
            lives(run, smallHouse(), true);
        }
        for (int run = 0; run < 400; run++) {
            lives(run, randomHouse(), false);
        }
        Check.done("OracleTest");
    }

    private static int upTo(int n) {
        return RANDOM.nextInt(n + 1);
    }

    private static String pick(String... some) {
        return some[RANDOM.nextInt(some.length)];
    }

    // ---- texts

    private static String smallHouse() {
        StringBuilder text = new StringBuilder("hours " + (4 + upTo(1)) + ";place a;place b;place c;");
        text.append(pick("way a b;", "way b c;", "way a b;way b c;", "way a b;way a c;", "way a b;way b c;way a c;"));
        text.append("frog a;").append(pick("", "frog b;", "frog c;", "frog b;frog c;"));
        text.append("person p a;").append(pick("", "person q b;"));
        boolean two = text.indexOf("person q") >= 0;
        text.append("deed d;deed g;");
        int promises = 1 + upTo(4);
        for (int k = 0; k < promises; k++) {
            int from = upTo(4);
            text.append("promise x").append((char) ('a' + k)).append(two ? pick(" p ", " p ", " q ") : " p ")
                .append(pick("d ", "g ")).append(pick("a ", "b ", "c ")).append(from).append(' ')
                .append(from + upTo(5 - from)).append(' ').append(pick("1", "1", "2", "3"))
                .append(pick("", "", " each")).append(pick("", "", " unless d", " unless g")).append(';');
        }
        return text.toString();
    }

    private static String randomHouse() {
        StringBuilder text = new StringBuilder(pick("", "hours 4;", "hours 6;", "hours 9;", "hours 24;"));
        int places = 1 + upTo(7);
        for (int k = 0; k < places; k++) {
            text.append("place l").append((char) ('a' + k)).append(';');
        }
        List<String> ways = new ArrayList<>();
        for (int k = 0; k < 14 && ways.size() < 12; k++) {
            int a = upTo(places - 1);
            int b = upTo(places - 1);
            String way = "way l" + (char) ('a' + Math.min(a, b)) + " l" + (char) ('a' + Math.max(a, b)) + ";";
            if (a != b && !ways.contains(way)) {
                ways.add(way);
            }
        }
        text.append(String.join("", ways));
        int frogs = upTo(6);
        for (int k = 0; k < frogs; k++) {
            text.append("frog l").append((char) ('a' + upTo(places - 1))).append(';');
        }
        int persons = upTo(4);
        for (int k = 0; k < persons; k++) {
            text.append("person p").append((char) ('a' + k)).append(" l").append((char) ('a' + upTo(places - 1))).append(';');
        }
        int deeds = upTo(6);
        for (int k = 0; k < deeds; k++) {
            text.append("deed d").append((char) ('a' + k)).append(';');
        }
        int promises = persons > 0 && deeds > 0 ? upTo(8) : 0;
        for (int k = 0; k < promises; k++) {
            int from = upTo(pick("a", "b").equals("a") ? 23 : 5);
            text.append("promise x").append((char) ('a' + k)).append(" p").append((char) ('a' + upTo(persons - 1)))
                .append(" d").append((char) ('a' + upTo(deeds - 1))).append(" l").append((char) ('a' + upTo(places - 1)))
                .append(' ').append(from).append(' ').append(Math.min(23, from + upTo(6))).append(' ').append(1 + upTo(2))
                .append(pick("", "", " each"));
            if (upTo(1) == 1) {
                text.append(" unless d").append((char) ('a' + upTo(deeds - 1)));
            }
            text.append(';');
        }
        List<String> vows = new ArrayList<>();
        for (int k = 0; promises > 1 && k < upTo(10) && vows.size() < 8; k++) {
            int a = upTo(promises - 1);
            int b = upTo(promises - 1);
            String vow = "vow x" + (char) ('a' + a) + " x" + (char) ('a' + b) + ";";
            if (a != b && !vows.contains(vow)) {
                vows.add(vow);
            }
        }
        text.append(String.join("", vows));
        return text.length() > 900 ? randomHouse() : text.toString();
    }

    /** More LINES of one sort behind a HOUSE, so that there may be too many. */
    private static String crowded() {
        StringBuilder text = new StringBuilder(randomHouse());
        String sort = pick("place y%s;", "frog la;", "person y%s la;", "deed y%s;", "promise y%s pa da la 1 2 1;", "vow xa xb;");
        for (int k = upTo(9); k >= 0; k--) {
            text.append(String.format(sort, (char) ('a' + k)));
        }
        return text.toString();
    }

    private static String spoiled(String text) {
        List<Model.Token> tokens = Model.tokens(text, 2000);
        List<String> parts = new ArrayList<>();
        for (Model.Token token : tokens) {
            parts.add(token.text());
        }
        int times = 1 + upTo(2);
        for (int k = 0; k < times; k++) {
            int at = upTo(parts.size() - 1);
            switch (upTo(5)) {
                case 0 -> parts.remove(at);
                case 1 -> parts.add(at, parts.get(upTo(parts.size() - 1)));
                case 2 -> parts.set(at, parts.get(upTo(parts.size() - 1)));
                case 3 -> parts.set(at, pick("0", "25", "999", "1000", "la", "pa", "da", "xa", "zz", "of", "(", ".", "", "A"));
                case 4 -> parts.subList(at, parts.size()).clear();
                default -> parts.addAll(parts.subList(0, at));
            }
            if (parts.isEmpty()) {
                parts.add("");
            }
        }
        StringBuilder spoiled = new StringBuilder();
        String blanks = pick("", "", " ", "  ", "\n");
        for (String part : parts) {
            boolean glue = spoiled.length() > 0 && Character.isLetterOrDigit(spoiled.charAt(spoiled.length() - 1))
                && !part.isEmpty() && Character.isLetterOrDigit(part.charAt(0)) && upTo(200) > 0;
            spoiled.append(glue ? " " : "").append(part).append(blanks);
        }
        return spoiled.length() > 940 ? spoiled.substring(0, 940) : spoiled.toString();
    }

    private static void houses() {
        int[] kinds = new int[5];
        for (int run = 0; run < 4000; run++) {
            String text = upTo(5) == 0 ? randomHouse() : spoiled(upTo(2) == 0 ? crowded() : randomHouse());
            int due;
            int kind = 0;
            try {
                Model model = new Model();
                model.readHouse(text);
                due = model.lines;
            } catch (Model.Fault fault) {
                due = -1 - fault.place;
                kind = fault.kind;
            }
            kinds[kind]++;
            WellPromises x = new WellPromises();
            Check.due("house " + text, Check.house(x, text), due);
            Check.due("fault " + text, x.fault(), kind);
        }
        for (int kind = 0; kind < 5; kind++) {
            Check.due("houses of kind " + kind + " were tried", kinds[kind] > 20, true);
        }
    }

    private static void daybooksAndSentences() {
        String house = "hours 5;place la;place lb;way la lb;frog la;person pa la;person pb lb;deed da;deed db;"
            + "promise xa pa da lb 1 3 1;promise xb pb db la 0 4 2 each unless da;promise xc pa db la 2 2 1;";
        Model model = new Model();
        model.readHouse(house);
        for (int run = 0; run < 4000; run++) {
            WellPromises x = Check.with(house);
            String text = daybook(upTo(upTo(9) == 0 ? 45 : 9));
            String book = upTo(3) == 0 ? text : spoiled(text);
            compareDaybook(x, model.copy(), book, 0);
            String cond = sentence(3);
            compareSentence(x, model.copy(), upTo(3) == 0 ? cond : spoiled(cond));
        }
    }

    private static String daybook(int lines) {
        StringBuilder text = new StringBuilder();
        for (int k = 0; k < lines; k++) {
            text.append(switch (upTo(4)) {
                case 0 -> pick("pa", "pb") + " goes " + pick("la", "lb");
                case 1 -> pick("pa", "pb") + " does " + pick("da", "db");
                case 2 -> pick("pa", "pb") + " says " + pick("xa", "xb", "xc");
                default -> "hour " + (upTo(9) == 0 ? upTo(101) : 1 + upTo(2));
            }).append(';');
        }
        return text.toString();
    }

    private static String sentence(int depth) {
        String one = switch (depth == 0 ? 2 + upTo(2) : upTo(6)) {
            case 0 -> "not " + sentence(depth - 1);
            case 1 -> "(" + sentence(depth - 1) + ")";
            case 2 -> pick("bound", "open", "kept", "off", "broken");
            case 3 -> "of " + pick("pa", "pb");
            default -> pick("from", "till", "times", "number") + pick("<", "=", ">") + upTo(4);
        };
        return depth > 0 && upTo(1) == 1 ? one + pick(" or ", " and ") + sentence(depth - 1) : one;
    }

    private static void compareDaybook(WellPromises x, Model model, String text, int lives) {
        int due = -1;
        try {
            List<int[]> book = model.readDaybook(text);
            int why = 0;
            int good = 0;
            for (int[] line : book) {
                why = switch (line[0]) {
                    case 0 -> model.go(line[1], line[2]);
                    case 1 -> model.act(line[1], line[2]);
                    case 2 -> model.say(line[1], line[2]);
                    default -> model.time + line[2] > 20 * model.hours ? 3 : 0;
                };
                if (why != 0) {
                    due = good;
                    break;
                }
                if (line[0] == 3) {
                    model.hours(line[2]);
                }
                good++;
            }
            Check.due("daybook " + text, Check.daybook(x, text, lives), due);
            Check.due("no fault of " + text, x.fault(), 0);
            Check.due("why " + text, x.booked(0), why);
            Check.due("good " + text, x.booked(1), good);
            Check.due("then " + text, x.booked(2), model.time);
            Check.due("broken " + text, x.booked(3), model.brokenCount());
        } catch (Model.Fault fault) {
            Check.due("daybook " + text, Check.daybook(x, text, lives), -2 - fault.place);
            Check.due("fault of " + text, x.fault(), fault.kind);
        }
    }

    private static void compareSentence(WellPromises x, Model model, String text) {
        try {
            Model.Cond cond = model.readSentence(text);
            Check.due("sentence " + text, Check.sentence(x, text), model.ones);
            Check.due("no fault of " + text, x.fault(), 0);
            int count = 0;
            for (int p = 0; p < model.promises.size(); p++) {
                if (cond.of(p)) {
                    Check.due("said " + text, x.said(count), p);
                    count++;
                }
            }
            Check.due("said of how many " + text, x.said(-1), count);
        } catch (Model.Fault fault) {
            Check.due("sentence " + text, Check.sentence(x, text), -1 - fault.place);
            Check.due("fault of " + text, x.fault(), fault.kind);
        }
    }

    // ---- runs

    private static void lives(int run, String house, boolean planned) {
        WellPromises x = Check.with(house);
        Model model = new Model();
        model.readHouse(house);
        String name = "run " + run + " of " + house;
        List<Model> past = new ArrayList<>();
        int acts = 15 + upTo(25);
        for (int k = 0; k < acts; k++) {
            model = oneAct(name, x, model, past);
            compareNow(name, x, model);
            if (upTo(3) == 0) {
                comparePromises(name, x, model);
            }
            if (upTo(5) == 0) {
                compareSentence(x, model, sentenceFor(model));
            }
            if (planned && upTo(2) == 0) {
                comparePlans(name, x, model);
            }
        }
        compareRest(name, x, model);
    }

    private static String sentenceFor(Model model) {
        String text = sentence(2);
        return text.replace("pa", model.names.containsKey("p") ? "p" : "pa")
            .replace("pb", model.names.containsKey("q") ? "q" : "pb");
    }

    private static Model oneAct(String name, WellPromises x, Model model, List<Model> past) {
        Model before = model.copy();
        int p = upTo(Math.max(0, model.at.size() - 1));
        boolean some = !model.at.isEmpty();
        boolean did = false;
        switch (upTo(8)) {
            case 0, 1 -> {
                int place = upTo(model.places - 1);
                if (some) {
                    Check.due("whyGo, " + name, x.whyGo(p, place), model.whyGo(p, place));
                    int why = model.go(p, place);
                    did = why == 0;
                    Check.due("go, " + name, x.go(p, place), why);
                }
            }
            case 2, 3 -> {
                if (some && model.deeds > 0) {
                    int deed = upTo(model.deeds - 1);
                    int why = model.act(p, deed);
                    did = why == 0;
                    Check.due("act, " + name, x.act(p, deed), why);
                }
            }
            case 4, 5 -> {
                if (some && !model.promises.isEmpty()) {
                    int k = upTo(model.promises.size() - 1);
                    int who = upTo(4) == 0 ? p : model.promises.get(k).person();
                    int why = model.say(who, k);
                    did = why == 0;
                    Check.due("say, " + name, x.say(who, k), why);
                }
            }
            case 6 -> {
                int n = upTo(9) == 0 ? 1 + upTo(98) : 1 + upTo(3);
                int gone = model.hours(n);
                did = gone > 0;
                Check.due("hours, " + name, x.hours(n), gone);
            }
            case 7 -> {
                int n = upTo(30) == 0 ? 99 : 1 + upTo(4);
                int seed = RANDOM.nextInt();
                int gone = some ? model.drawn(n, seed) : -1;
                did = gone > 0;
                Check.due("drawn, " + name, x.drawn(n, seed), gone);
            }
            default -> {
                int due = past.isEmpty() ? -1 : past.size() - 1;
                Check.due("undo, " + name, x.undo(), due);
                return past.isEmpty() ? model : past.remove(past.size() - 1);
            }
        }
        if (did) {
            past.add(before);
            if (past.size() > 8) {
                past.remove(0);
            }
        }
        return model;
    }

    private static void compareNow(String name, WellPromises x, Model model) {
        Check.due("day, " + name, x.now(0), model.time / model.hours);
        Check.due("hour, " + name, x.now(1), model.time % model.hours);
        Check.due("deeds, " + name, x.now(2), model.done.size());
        Check.due("broken ones, " + name, x.now(5), model.brokenCount());
        for (int p = 0; p < model.at.size(); p++) {
            int who = p;
            Check.due("place, " + name, x.person(p, 0), model.at.get(p));
            Check.due("busy, " + name, x.person(p, 1), model.busy.contains(p) ? 1 : 0);
            Check.due("did, " + name, x.person(p, 2), model.done.stream().filter(d -> d.person() == who).count());
            Check.due("went, " + name, x.person(p, 3), model.went[p]);
        }
    }

    private static void comparePromises(String name, WellPromises x, Model model) {
        int agree = 0;
        for (int reading = 0; reading < 8; reading++) {
            boolean like = true;
            for (int k = 0; k < model.promises.size(); k++) {
                like &= model.status(k, reading) == model.status(k, 0);
            }
            agree |= like ? 1 << reading : 0;
        }
        Check.due("agree, " + name, x.agree(), agree);
        for (int k = 0; k < model.promises.size(); k++) {
            int[] bits = new int[5];
            int first = -1;
            int last = -1;
            boolean all = true;
            for (int reading = 0; reading < 8; reading++) {
                int day = model.broken(k, reading);
                first = day >= 0 && (first < 0 || day < first) ? day : first;
                last = Math.max(last, day);
                all &= day >= 0;
                bits[model.status(k, reading)] |= 1 << reading;
                Check.due("status " + k + " " + reading + ", " + name, x.status(k, reading), model.status(k, reading));
                Check.due("broken " + k + " " + reading + ", " + name, x.broken(k, reading), day);
                Check.due("asks " + k + " " + reading + ", " + name, x.asks(k, reading), model.asks(k, reading));
            }
            for (int status = 0; status < 5; status++) {
                Check.due("readings " + k + " " + status + ", " + name, x.readings(k, status), bits[status]);
            }
            Check.due("breach 0, " + name, x.breach(k, 0), first);
            Check.due("breach 1, " + name, x.breach(k, 1), all ? last : -1);
            Check.due("heard, " + name, x.heard(k), model.heard(k));
            for (int f = 0; f < model.frogs.size(); f++) {
                Check.due("knows, " + name, x.knows(f, k), model.knows(f, k));
            }
        }
    }

    private static void comparePlans(String name, WellPromises x, Model model) {
        for (int p = 0; p < model.at.size(); p++) {
            List<Integer> due = model.dueToday(p);
            if (model.over() || due.size() > 4) {
                Check.due("no plan, " + name, x.plan(p), -1);
                Check.due("no quarrel, " + name, x.quarrel(p), -1);
                continue;
            }
            int goings = model.plan(p, due);
            List<Integer> steps = model.best;
            Check.due("quarrel, " + name, x.quarrel(p), model.quarrel(p));
            Check.due("plan, " + name, x.plan(p), goings);
            int start = model.time % model.hours;
            for (int hour = 0; goings >= 0 && hour <= model.hours; hour++) {
                int want = hour < start || hour == model.hours ? -1 : steps.get(hour - start);
                Check.due("step " + hour + ", " + name, x.step(hour), want);
            }
        }
    }

    private static void compareRest(String name, WellPromises x, Model model) {
        Check.due("rings, " + name, x.rings(), model.rings());
        Check.due("roots, " + name, x.roots(), model.roots());
        Check.due("dry, " + name, x.dry(), model.dry());
        for (int a = 0; a < model.places; a++) {
            for (int b = 0; b < model.places; b++) {
                Check.due("way, " + name, x.way(a, b), model.way(a, b));
            }
        }
        for (int k = 0; k < model.promises.size(); k++) {
            Check.due("chain, " + name, x.chain(k), model.chainBits(k));
            int n = 1 + upTo(5);
            int seed = RANDOM.nextInt();
            int count = 0;
            for (int s = 0; s < n; s++) {
                Model then = model.copy();
                then.drawn(2 * model.hours, seed + s);
                count += then.status(k, 0) == 4 ? 1 : 0;
            }
            Check.due("odds, " + name, x.odds(k, n, seed), count);
        }
        for (int p = 0; p < model.at.size(); p++) {
            for (int deed = 0; deed < model.deeds; deed++) {
                for (int place = 0; place < model.places; place++) {
                    Check.due("windows, " + name, x.windows(p, deed, place), model.windows(p, deed, place));
                    Check.due("shortest, " + name, x.shortest(p, deed, place), model.shortest(p, deed, place));
                }
            }
        }
    }
}
