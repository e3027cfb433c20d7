import java.io.IOException;
import java.nio.file.Files;
import java.nio.file.Path;
import java.util.ArrayList;
import java.util.List;
import java.util.Map;
import java.util.Set;
import java.util.TreeSet;
import java.util.regex.Matcher;
import java.util.regex.Pattern;

/**
 * Runs src/test/boundaries.txt, which says itself how it is written: for each sentence of the document the
 * boundary cases. Tests besides that what is refused or only asked changes nothing, and that no word of a
 * promise, and no refusal that it names, is left without a test.
 */
public final class BoundaryTest {
    static final Map<String, Long> NAMES = Map.ofEntries(
            Map.entry("NONE", -1L), Map.entry("BAD", -2L), Map.entry("KIND", -3L), Map.entry("FULL", -4L),
            Map.entry("STATE", -5L), Map.entry("ONE", 0L), Map.entry("SEVERAL", 1L), Map.entry("ANY", 2L),
            Map.entry("HOLDING", 3L), Map.entry("DEAF", 4L), Map.entry("MIN", (long) Integer.MIN_VALUE),
            Map.entry("MAX", (long) Integer.MAX_VALUE), Map.entry("LMIN", Long.MIN_VALUE), Map.entry("LMAX", Long.MAX_VALUE));
    static final Set<String> REFUSALS = Set.of("NONE", "BAD", "KIND", "FULL", "STATE");
    static final Set<String> ACTS = Set.of("piece", "listener", "wants", "has", "off", "say", "again", "goOn", "finish");
    static final int MOST_CALLS = 512;

    record Call(String name, List<Long> args, long due, boolean isRefused) {
        public String toString() {
            return name + args.toString().replace('[', '(').replace(']', ')');
        }
        int arg(int i) {
            return Math.toIntExact(args.get(i));
        }
    }

    /** One object's calls, and for which promises and which words of the document they are. */
    record Case(Set<Integer> promises, String words, String title, List<Call> calls) {
        public String toString() {
            return "promise " + promises.toString().replaceAll("[\\[\\]]", "") + ", '" + words + "', " + title;
        }
    }

    static int wrong = 0;
    static int asked = 0;

    static void fail(String what) {
        wrong++;
        System.out.println(what);
    }

    // ---- one call ----

    static long answer(OneCall x, Call c) {
        switch (c.name) {
            case "piece": return x.piece(c.args.get(0));
            case "bytes": return x.bytes(c.arg(0));
            case "listener": return x.listener(c.arg(0));
            case "wants": return x.wants(c.arg(0), c.arg(1));
            case "has": return x.has(c.arg(0), c.arg(1));
            case "off": return x.off(c.arg(0), c.arg(1));
            case "say": return x.say(c.arg(0));
            case "again": return x.again(c.arg(0));
            case "call": return x.call(c.arg(0), c.arg(1));
            case "sum": return x.sum(c.arg(0));
            case "heard": return x.heard(c.arg(0), c.arg(1));
            case "about": return x.about(c.arg(0), c.arg(1));
            case "rowOf": return x.rowOf(c.arg(0), c.arg(1));
            case "solve": return x.solve(c.arg(0), c.arg(1));
            case "why": return x.why(c.arg(0), c.arg(1));
            case "gets": return x.gets(c.arg(0), c.arg(1));
            case "lack": return x.lack(c.arg(0), c.arg(1));
            case "left": return x.left();
            case "needs": return x.needs();
            case "need": return x.need(c.arg(0), c.arg(1));
            case "below": return x.below();
            case "order": return x.order(c.arg(0));
            case "above": return x.above();
            case "group": return x.group(c.arg(0));
            case "least": return x.least();
            case "planned": return x.planned(c.arg(0));
            case "plan": return x.plan(c.arg(0), c.arg(1), c.arg(2), c.arg(3));
            case "goOn": return x.goOn();
            case "finish": return x.finish();
            case "count": return x.count(c.arg(0));
            default: throw new IllegalStateException("no such method: " + c.name);
        }
    }

    // ---- reading ----

    static final Pattern HEAD = Pattern.compile("== ([0-9, ]+): (.+)");
    static final Pattern LINE = Pattern.compile("(?:(\\d+) x )?(\\w+)\\((.*)\\) = (.+)");
    static final Pattern ARGUMENT = Pattern.compile("\\{[^}]*\\}|[^,{}]+");

    static List<Case> read(Path file) throws IOException {
        List<Case> cases = new ArrayList<>();
        Set<Integer> promises = new TreeSet<>();
        String words = "";
        for (String raw : Files.readAllLines(file)) {
            String line = raw.strip();
            if (line.isEmpty() || line.startsWith("#")) continue;
            Matcher head = HEAD.matcher(line);
            if (head.matches()) {
                promises = new TreeSet<>();
                for (String number : head.group(1).split(", ")) promises.add(Integer.parseInt(number));
                words = head.group(2);
            } else if (line.startsWith("-- ")) {
                cases.add(new Case(promises, words, line.substring(3), new ArrayList<>()));
            } else {
                readCalls(line, cases.get(cases.size() - 1).calls);
            }
        }
        return cases;
    }

    static void readCalls(String line, List<Call> into) {
        String[] words = line.split(" ");
        if (words[0].equals("pieces")) {
            for (int p = 0; p < Integer.parseInt(words[1]); p++) into.add(new Call("piece", List.of(1L << p), p, false));
        } else if (words[0].equals("listeners")) {
            for (int l = 1; l < words.length; l++) into.add(new Call("listener", List.of(NAMES.get(words[l])), l - 1, false));
        } else {
            Matcher m = LINE.matcher(line);
            if (!m.matches()) throw new IllegalStateException("can't be read: " + line);
            int times = m.group(1) == null ? 1 : Integer.parseInt(m.group(1));
            for (int i = 0; i < times; i++) readAnswers(m.group(2), argumentRows(m.group(3)), m.group(4), into);
        }
    }

    static void readAnswers(String name, List<List<Long>> rows, String answers, List<Call> into) {
        List<String> due = tokens(answers);
        int many = Math.max(rows.size(), due.size());
        if (rows.size() != many && rows.size() != 1 || due.size() != many && due.size() != 1) {
            throw new IllegalStateException(rows.size() + " calls of " + name + ", answers: " + answers);
        }
        for (int i = 0; i < many; i++) {
            String answer = due.get(due.size() == 1 ? 0 : i);
            into.add(new Call(name, rows.get(rows.size() == 1 ? 0 : i), number(answer), REFUSALS.contains(answer)));
        }
    }

    static List<List<Long>> argumentRows(String text) {
        List<List<Long>> rows = List.of(List.of());
        Matcher m = ARGUMENT.matcher(text);
        while (m.find()) {
            if (m.group().isBlank()) continue;
            List<List<Long>> longer = new ArrayList<>();
            for (List<Long> row : rows) {
                for (String value : tokens(m.group())) {
                    List<Long> next = new ArrayList<>(row);
                    next.add(number(value));
                    longer.add(next);
                }
            }
            rows = longer;
        }
        return rows;
    }

    /** The values of one value, of a .. b, or of those in braces. */
    static List<String> tokens(String text) {
        List<String> result = new ArrayList<>();
        for (String part : text.replaceAll("[{}]", "").split(",")) {
            String[] ends = part.strip().split(" \\.\\. ");
            if (ends.length == 1) {
                result.add(ends[0]);
            } else {
                for (long v = number(ends[0]); v <= number(ends[1]); v++) result.add(Long.toString(v));
            }
        }
        return result;
    }

    static long number(String text) {
        if (NAMES.containsKey(text)) return NAMES.get(text);
        return text.startsWith("0x") ? Long.parseUnsignedLong(text.substring(2), 16) : Long.parseLong(text);
    }

    // ---- answers ----

    static void answersAreDue(Case c) {
        if (c.calls.size() > MOST_CALLS) fail(c + ": more calls than the document allows");
        OneCall x = new OneCall();
        for (Call call : c.calls) {
            asked++;
            long got = answer(x, call);
            if (got != call.due) fail(c + ": " + call + " answered " + got + ", due is " + call.due);
        }
    }

    // ---- what is refused or only asked changes nothing ----

    static void add(List<Call> into, String call) {
        readCalls(call + " = 0", into);
    }

    /** Questions about everything, then acts of all sorts, in parts that leave room below 512 calls. */
    static List<List<Call>> pictureParts() {
        List<List<Call>> parts = new ArrayList<>();
        for (String[] part : new String[][] {
                {"count({0 .. 4})", "bytes({0 .. 10})", "left()", "below()", "above()", "least()", "order({0 .. 10})",
                 "group({0 .. 10})", "planned({0 .. 5})", "plan({0, 1, 3}, 0, 0, 0)", "needs()", "need({0 .. 29}, {0, 1})"},
                {"about({0 .. 10}, {0 .. 7})"}, {"call({0 .. 40}, {0 .. 2})"}, {"sum({0 .. 40})"},
                {"heard({0 .. 2}, {0 .. 40})"}, {"heard({3 .. 5}, {0 .. 40})"}, {"heard({6 .. 9}, {0 .. 40})"},
                {"rowOf({0 .. 2}, {0 .. 52})"}, {"rowOf({3 .. 5}, {0 .. 52})"}, {"rowOf({6 .. 9}, {0 .. 52})"},
                {"solve({0 .. 9}, {0 .. 9})"}, {"why({0 .. 9}, {0 .. 9})"}, {"gets({0 .. 9}, {0 .. 9})"},
                {"lack({0 .. 9}, {0 .. 9})"},
                {"piece(99)", "has({0 .. 9}, {1, 3, 8, 512})", "listener({3, 4})", "wants({0 .. 9}, {0, 1, 9})",
                 "off({0 .. 9}, {1, 0})", "goOn()", "finish()", "again(0)", "say({1, 2})", "count({0 .. 4})"}}) {
            List<Call> calls = new ArrayList<>();
            for (String call : part) add(calls, call);
            parts.add(calls);
        }
        return parts;
    }

    static OneCall after(List<Call> calls, boolean actsAlone) {
        OneCall x = new OneCall();
        for (Call c : calls) {
            if (!actsAlone || ACTS.contains(c.name) && !c.isRefused) answer(x, c);
        }
        return x;
    }

    static void nothingElseChanges(Case c, List<List<Call>> parts) {
        for (List<Call> part : parts) {
            if (c.calls.size() + part.size() > MOST_CALLS) continue;
            OneCall x = after(c.calls, false);
            OneCall twin = after(c.calls, true);
            for (Call call : part) {
                asked++;
                long got = answer(x, call);
                long due = answer(twin, call);
                if (got == due) continue;
                fail(c + ": then " + call + " answered " + got + ", but " + due + " where nothing was refused or asked");
                break;
            }
        }
    }

    // ---- no word is left without a test ----

    static String plain(String text) {
        return text.replaceAll("\\s+", " ").strip();
    }

    /** The document's part under a heading that begins so, without code. */
    static String part(String doc, String heading) {
        Matcher m = Pattern.compile("(?sm)^## " + heading + "[^\n]*\n(.*?)(?=^## |\\z)").matcher(doc);
        if (!m.find()) throw new IllegalStateException("the document has no '" + heading + "'");
        return plain(m.group(1).replaceAll("(?m)^```.*$", ""));
    }

    static String uncovered(String text, List<String> quotes) {
        boolean[] covered = new boolean[text.length()];
        for (String quote : quotes) {
            for (int at = text.indexOf(quote); at >= 0; at = text.indexOf(quote, at + 1)) {
                for (int i = at; i < at + quote.length(); i++) covered[i] = true;
            }
        }
        StringBuilder rest = new StringBuilder();
        for (int i = 0; i < text.length(); i++) rest.append(covered[i] ? ' ' : text.charAt(i));
        return plain(rest.toString().replaceAll("======== \\d|[;:.,]", " "));
    }

    static void everyWordIsTested(String doc, List<Case> cases) {
        String terms = part(doc, "What it is") + " " + part(doc, "Terms");
        List<String> all = new ArrayList<>();
        for (Case c : cases) {
            all.add(c.words);
            for (int p : c.promises) {
                boolean isThere = part(doc, "Promise " + p + ":").contains(c.words) || terms.contains(c.words);
                if (!isThere) fail("the document does not say for promise " + p + ": " + c.words);
            }
        }
        // What the class is about, and what is free, is not to be tested.
        all.add(terms.substring(0, terms.indexOf(" ======== 1")));
        all.add("what later calls answer is free.");
        String rest = uncovered(terms, all);
        if (!rest.isEmpty()) fail("without a test, of the terms: " + rest);
        for (int p = 1; p <= 31; p++) promiseIsTested(p, part(doc, "Promise " + p + ":"), cases);
    }

    static void promiseIsTested(int p, String text, List<Case> cases) {
        Matcher face = Pattern.compile("`(?:int |long )?(\\w+)\\([^)]*\\)`: (.*)").matcher(text);
        if (!face.matches()) throw new IllegalStateException("can't be read: " + text);
        List<String> quotes = new ArrayList<>();
        Set<Long> refused = new TreeSet<>();
        for (Case c : cases) {
            if (!c.promises.contains(p)) continue;
            quotes.add(c.words);
            for (Call call : c.calls) if (call.isRefused && call.name.equals(face.group(1))) refused.add(call.due);
        }
        String rest = uncovered(face.group(2), quotes);
        if (!rest.isEmpty()) fail("without a test, of promise " + p + ": " + rest);
        for (String refusal : REFUSALS) {
            // "its KIND" is no refusal; finishing stops at FULL and answers how many were said.
            boolean isNamed = Pattern.compile("(?<!its )\\b" + refusal + "\\b").matcher(face.group(2)).find();
            if (isNamed && p != 30 && !refused.contains(NAMES.get(refusal))) fail("promise " + p + ": no test has it answer " + refusal);
        }
    }

    public static void main(String[] args) throws IOException {
        Path root = Path.of(args.length > 0 ? args[0] : ".");
        List<Case> cases = read(root.resolve("src/test/boundaries.txt"));
        List<List<Call>> parts = pictureParts();
        for (Case c : cases) {
            answersAreDue(c);
            nothingElseChanges(c, parts);
        }
        Path doc = root.resolve("../shared/DOC.md");
        if (Files.exists(doc)) everyWordIsTested(Files.readString(doc), cases);
        System.out.println(cases.size() + " objects, " + asked + " answers, " + wrong + " not as due");
        if (wrong != 0) System.exit(1);
    }
}
