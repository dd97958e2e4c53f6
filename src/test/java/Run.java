import java.util.ArrayList;
import java.util.List;

/**
 * One run of calls on a new object, for one sentence of the document. A call is a text such as "put 0 500". The calls
 * are kept, so that they can be made again on other new objects: later calls on two of them, of which only one has
 * had a refused call, show whether that call changed anything.
 */
final class Run {
    static final int NONE = -1;
    static final String NOT_ASKED = "NoSuchElementException";
    static final String NO_NUMBER = "IndexOutOfBoundsException";
    static final int LEAST = Integer.MIN_VALUE;
    static final int GREATEST = Integer.MAX_VALUE;
    private static final int MOST_CALLS = 512;
    private static final List<String> PROBES = probes();
    private static int wrong = 0;

    private final String sentence;
    private final CloudBench bench = new CloudBench();
    private final List<String> past = new ArrayList<>();

    Run(String sentence) {
        this.sentence = sentence;
    }

    /** A run in which every part of the object holds something, so that a change of any part is seen. */
    static Run furnished(String sentence) {
        Run run = new Run(sentence);
        run.puts(0, 5, 1, 9);
        run.puts(1, 2, 1, 4);
        run.puts(2, 7);
        run.puts(3, rising(20, -10, 1));
        run.puts(4, 3, 8, 3, 6);
        run.puts(7, -500, 500, 0);
        run.due("spread 1 0 1", 13);
        run.due("span 0 1 1 10", 1);
        run.due("table 2 3", true);
        run.due("cell 0 0 2", true);
        run.due("cell 0 1 1", true);
        run.due("cell 1 1 3", true);
        run.due("cell 1 2 1", true);
        run.due("ask 1 2 3 0", 0);
        run.due("ask 0 0 1 1", 1);
        run.due("ask 0 0 1 0", 2);
        run.due("held 3 5", 2);
        run.due("ask 3 0 1 0", 3);
        return run;
    }

    /** Prints how the test went; ends with exit code 1 if an answer was not as due. */
    static void end(String what) {
        System.out.println(wrong == 0 ? what + " are as due" : wrong + " faults");
        if (wrong != 0) {
            System.exit(1);
        }
    }

    static int[] rising(int size, int from, int step) {
        int[] numbers = new int[size];
        for (int i = 0; i < size; i++) {
            numbers[i] = from + i * step;
        }
        return numbers;
    }

    static int[] alike(int size, int number) {
        return rising(size, number, 0);
    }

    void puts(int sample, int... numbers) {
        for (int number : numbers) {
            call("put " + sample + " " + number);
        }
    }

    /** A call, its answer not looked at. */
    void call(String call) {
        answerHere(call);
    }

    /** A call that is taken, or one that asks. */
    void due(String call, Object want) {
        String got = answerHere(call);
        must(got.equals(String.valueOf(want)), call + " answered " + got + ", due is " + want);
    }

    /** A call that changes nothing: one that is refused, or one that only asks. */
    void still(String call, Object want) {
        changesOnly("nothing", call, want);
    }

    /** A call behind which only the answers of one method, or of none, are others than without it. */
    void changesOnly(String method, String call, Object want) {
        CloudBench with = replayed();
        CloudBench without = replayed();
        String got = answer(with, call);
        must(got.equals(String.valueOf(want)), call + " answered " + got + ", due is " + want);
        must(past.size() + 1 + PROBES.size() <= MOST_CALLS, "the run of " + past.size() + " calls is too long to be probed");
        for (String probe : PROBES) {
            String now = answer(with, probe);
            String then = answer(without, probe);
            if (!probe.startsWith(method + " ")) {
                must(now.equals(then), call + " changed " + probe + " from " + then + " to " + now);
            }
        }
        due(call, want);
    }

    int calls() {
        return past.size();
    }

    private String answerHere(String call) {
        past.add(call);
        must(past.size() <= MOST_CALLS, "the run has more calls than an object is promised for");
        return answer(bench, call);
    }

    private CloudBench replayed() {
        CloudBench x = new CloudBench();
        for (String call : past) {
            answer(x, call);
        }
        return x;
    }

    private void must(boolean holds, String what) {
        if (!holds) {
            wrong++;
            System.out.println(sentence + ": " + what);
        }
    }

    /** The last ones empty the table place by place, which tells its size and each of its counts. */
    private static List<String> probes() {
        List<String> probes = new ArrayList<>();
        for (int sample = 0; sample < 8; sample++) {
            for (int i = 0; i <= 20; i++) {
                probes.add("number " + sample + " " + i);
            }
        }
        for (int k = 0; k < 14; k++) {
            probes.add("row " + k + " 0");
            probes.add("row " + k + " 1");
        }
        for (int what = 0; what <= 3; what++) {
            probes.add("ends " + what);
        }
        for (int i = 0; i <= 20; i++) {
            for (int what = 0; what <= 2; what++) {
                probes.add("asked " + i + " " + what);
            }
        }
        for (int what = 0; what <= 5; what++) {
            probes.add("margins " + what);
        }
        for (int place = 0; place < 12; place++) {
            probes.add("cell " + place / 4 + " " + place % 4 + " 0");
            probes.add("margins 0");
            probes.add("margins 1");
        }
        return probes;
    }

    private static String answer(CloudBench x, String call) {
        String[] words = call.split(" ");
        int[] n = new int[4];
        for (int i = 1; i < words.length; i++) {
            n[i - 1] = Integer.parseInt(words[i]);
        }
        try {
            return answer(x, words[0], n);
        } catch (RuntimeException e) {
            return e.getClass().getSimpleName();
        }
    }

    private static String answer(CloudBench x, String name, int[] n) {
        switch (name) {
            case "put": return "" + x.put(n[0], n[1]);
            case "drop": return "" + x.drop(n[0]);
            case "turn": return "" + x.turn(n[0], n[1], n[2]);
            case "number": return "" + x.number(n[0], n[1]);
            case "rank": return "" + x.rank(n[0], n[1], n[2]);
            case "noughts": return "" + x.noughts(n[0], n[1]);
            case "score": return "" + x.score(n[0], n[1], n[2]);
            case "total": return "" + x.total(n[0], n[1], n[2]);
            case "count": return "" + x.count(n[0], n[1], n[2], n[3]);
            case "spread": return "" + x.spread(n[0], n[1], n[2]);
            case "row": return "" + x.row(n[0], n[1]);
            case "span": return "" + x.span(n[0], n[1], n[2], n[3]);
            case "ends": return "" + x.ends(n[0]);
            case "pairs": return "" + x.pairs(n[0], n[1], n[2]);
            case "table": return "" + x.table(n[0], n[1]);
            case "cell": return "" + x.cell(n[0], n[1], n[2]);
            case "margins": return "" + x.margins(n[0]);
            case "ask": return "" + x.ask(n[0], n[1], n[2], n[3]);
            case "asked": return "" + x.asked(n[0], n[1]);
            case "held": return "" + x.held(n[0], n[1]);
            case "anew":
                x.anew();
                return "done";
            default: return "there is no call " + name;
        }
    }
}
