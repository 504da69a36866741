import java.io.IOException;
import java.nio.file.Files;
import java.nio.file.Path;
import java.util.ArrayList;
import java.util.List;
import java.util.Set;
import java.util.TreeMap;
import java.util.TreeSet;
import java.util.regex.Matcher;
import java.util.regex.Pattern;

/**
 * Edges that the document names, each under the sentence that names it. A test of one is a run of
 * calls on a new object, told as a text:
 * 'nodes 3' writes these letters; call(1, 2) is not refused; call(1, 2)=7 answers 7;
 * call(1, 2)?7 answers 7 and changes nothing; call(1, 2)!FULL is refused and changes nothing.
 * Numbers may be told by their names too: NONE, UNKNOWN, OUTSIDE, NOT, FULL, LEAST, MOST.
 */
final class Edge {
    private static final Path DOCUMENT = Path.of("../shared/DOC.md");
    private static final Pattern STEP =
        Pattern.compile("\\s*(?:'([^']*)'|(\\w+\\([^)]*\\))(?:([=!?])(-?\\w+))?)\\s*");
    private static final String[] CODES = {"UNKNOWN", "OUTSIDE", "NOT", "FULL", "NONE"};

    private static final String[] PARAGRAPHS = readDocument();
    private static final TreeMap<Integer, StringBuilder> QUOTES = new TreeMap<>();

    private static String sentence = "";
    private static int sentences = 0;

    private Edge() {
    }

    // ---- the sentences

    // The first paragraph is what stands ahead of promise 1, the k-th one is promise k.
    private static String[] readDocument() {
        try {
            if (!Files.exists(DOCUMENT)) {
                return new String[0];
            }
            String whole = Files.readString(DOCUMENT).replaceAll("\\s+", " ");
            return whole.split("## Not promised")[0].split("## Promise \\d+: ");
        } catch (IOException e) {
            throw new IllegalStateException(e);
        }
    }

    /** What follows is of this sentence of a promise (0: ahead of the promises). */
    static void of(int promise, String quote) {
        sentence = quote;
        sentences++;
        QUOTES.computeIfAbsent(promise, k -> new StringBuilder()).append(quote).append('\n');
        if (PARAGRAPHS.length > 0) {
            Due.isTrue("promise " + promise + " of the document says <" + quote + ">",
                promise < PARAGRAPHS.length && PARAGRAPHS[promise].contains(quote));
        }
    }

    /** Each refusal and each NONE that a promise names has to be of a sentence that was tested. */
    static void allAreQuoted() {
        for (int promise = 1; promise < PARAGRAPHS.length; promise++) {
            String quoted = QUOTES.getOrDefault(promise, new StringBuilder()).toString();
            Due.isTrue("promise " + promise + " has an edge that is tested", !quoted.isEmpty());
            Set<String> missing = new TreeSet<>();
            for (String code : CODES) {
                Pattern word = Pattern.compile("\\b" + code + "\\b");
                if (word.matcher(PARAGRAPHS[promise]).find() && !word.matcher(quoted).find()) {
                    missing.add(code);
                }
            }
            Due.isTrue("promise " + promise + " has no edge without a test: " + missing, missing.isEmpty());
        }
        System.out.println(sentences + " sentences");
    }

    // ---- the runs

    private static int number(String word) {
        switch (word) {
            case "NONE":
                return HeaderWays.NONE;
            case "UNKNOWN":
                return HeaderWays.UNKNOWN;
            case "OUTSIDE":
                return HeaderWays.OUTSIDE;
            case "NOT":
                return HeaderWays.NOT;
            case "FULL":
                return HeaderWays.FULL;
            default:
                return Used.number(word);
        }
    }

    private static boolean isRefusal(int answer) {
        return answer <= HeaderWays.UNKNOWN && answer >= HeaderWays.FULL;
    }

    private static String said(String call) {
        return call + " [" + sentence + "]";
    }

    // The letters written are told as a text again.
    private static String told(List<String> calls) {
        StringBuilder words = new StringBuilder();
        boolean text = false;
        for (String call : calls) {
            int letter = call.startsWith("write(") ? Used.number(call.substring(6, call.length() - 1)) : -1;
            boolean plain = letter >= ' ' && letter <= '~';
            words.append(plain != text ? "'" : "").append(!plain && text ? " " : "");
            text = plain;
            words.append(plain ? "" + (char) letter : call + " ");
        }
        return words.append(text ? "' " : "").toString();
    }

    /** Makes an object, asks it the calls of the run, and holds each answer against the one that is due. */
    static void run(String run) {
        made(run);
    }

    /** As run(): the object behind it. */
    static Used made(String run) {
        Used x = new Used();
        Matcher step = STEP.matcher(run);
        int place = 0;
        while (place < run.length() && step.find(place) && step.start() == place) {
            if (step.group(1) != null) {
                x.write(step.group(1));
            } else {
                ask(x, step.group(2), step.group(3), step.group(4));
            }
            place = step.end();
        }
        Due.is(said("read of the run <" + run + ">"), place, run.length());
        return x;
    }

    private static void ask(Used x, String call, String mark, String due) {
        List<String> ahead = new ArrayList<>(x.asked());
        int answer = x.ask(call);
        String calls = said(told(ahead) + call);
        if (mark == null) {
            Due.isTrue(calls + " is not refused: " + answer, !isRefusal(answer));
            return;
        }
        Due.is(calls, answer, number(due));
        if (mark.equals("=")) {
            return;
        }
        if (mark.equals("!")) {
            Due.isTrue(calls + " is told as a refusal", isRefusal(number(due)));
        }
        String changed = Probes.difference(ahead, x.asked());
        Due.isTrue(calls + " changes nothing, but: " + changed, changed.isEmpty());
    }

    /** The run, with each of the numbers put in for @. */
    static void runs(String run, String... numbers) {
        for (String one : numbers) {
            run(run.replace("@", one));
        }
    }

    /** A text behind a run: the place of its fault, the clauses if it has none. */
    static void fault(String run, String text, int place, int clauses) {
        StringBuilder calls = new StringBuilder(run);
        for (int i = 0; i < text.length(); i++) {
            calls.append(" write(").append((int) text.charAt(i)).append(")=").append(i + 1);
        }
        calls.append(" count(12)?").append(text.length());
        calls.append(" fault()?").append(place);
        calls.append(place == HeaderWays.NONE ? " tell()=" + clauses + " count(12)=0" : " tell()!NOT");
        run(calls.toString());
    }
}
