import java.math.BigInteger;
import java.util.ArrayList;
import java.util.Arrays;
import java.util.HashMap;
import java.util.List;
import java.util.Map;
import java.util.Random;
import java.util.TreeMap;
import java.util.TreeSet;

/** Runs of random calls, from fixed seeds, answered by the class and by a plain bench that counts every sharing. */
public final class PlainCountTest {
    private static final int CALLS = 512;
    private static final String NOT_ASKED = "NoSuchElementException";
    private static int wrong = 0;

    public static void main(String[] args) {
        for (int seed = 0; seed < 400; seed++) {
            run(seed, seed % 4 == 3 ? 20 : 5, seed % 4 == 3 ? 60 : CALLS);
        }
        for (int seed = 1000; seed < 1012; seed++) {
            runFull(seed);
        }
        System.out.println(wrong == 0 ? "all answers are those of plain counting" : wrong + " answers are not as due");
        if (wrong != 0) {
            System.exit(1);
        }
    }

    private static void run(int seed, int most, int calls) {
        Random random = new Random(seed);
        CloudBench bench = new CloudBench();
        Plain plain = new Plain();
        int reach = seed % 3 == 0 ? 500 : seed % 3 == 1 ? 4 : 30;
        for (int i = 0; i < calls; i++) {
            compare(seed, i, bench, plain, randomCall(random, plain, most, reach));
        }
    }

    /** Samples as full as they may be, every test, side and row; an object is made anew ahead of its 512th call. */
    private static void runFull(int seed) {
        Random random = new Random(seed);
        Plain plain = new Plain();
        List<String[]> puts = fullSamples(seed, random);
        CloudBench first = new CloudBench();
        for (String[] put : puts) {
            compare(seed, 0, first, plain, put);
        }
        for (int test = 0; test <= 5; test++) {
            for (int b = 1; b <= 2; b++) {
                compare(seed, test, first, plain, call("score", test, 0, b));
                compare(seed, test, first, plain, call("total", test, 0, b));
                for (int side = 0; side <= 2; side++) {
                    compare(seed, test, first, plain, call("count", test, 0, b, side));
                }
                fullRows(seed, puts, plain, call("spread", test, 0, b));
            }
        }
        fullList(seed, random, puts, plain);
        CloudBench last = benchAfter(puts);
        for (int u = -1; u <= 401; u++) {
            compare(seed, u, last, plain, call("pairs", 0, 1, u));
        }
    }

    private static List<String[]> fullSamples(int seed, Random random) {
        List<String[]> puts = new ArrayList<>();
        for (int i = 0; i < 20; i++) {
            for (int sample = 0; sample <= 1; sample++) {
                int v = seed % 3 == 0 ? random.nextInt(2) * 1000 - 500
                        : seed % 3 == 1 ? random.nextInt(1001) - 500 : random.nextInt(9) - 4;
                puts.add(call("put", sample, v));
            }
            puts.add(call("put", 2, random.nextInt(60) * 17 - 500));
        }
        return puts;
    }

    private static CloudBench benchAfter(List<String[]> calls) {
        CloudBench bench = new CloudBench();
        for (String[] call : calls) {
            answer(bench, call[0], arguments(call));
        }
        return bench;
    }

    private static void fullRows(int seed, List<String[]> puts, Plain plain, String[] spread) {
        if (plain.answer(spread[0], arguments(spread)).equals(NOT_ASKED)) {
            compare(seed, 0, benchAfter(puts), plain, spread);
            return;
        }
        int behind = Math.min(2000, plain.spread.size()) + 1;
        for (int from = -1; from <= behind; from += 200) {
            CloudBench bench = benchAfter(puts);
            compare(seed, from, bench, plain, spread);
            for (int k = from; k < from + 200 && k <= behind; k++) {
                compare(seed, k, bench, plain, call("row", k, 0));
                compare(seed, k, bench, plain, call("row", k, 1));
            }
        }
    }

    private static void fullList(int seed, Random random, List<String[]> puts, Plain plain) {
        CloudBench bench = benchAfter(puts);
        for (int i = 0; i < 36; i++) {
            compare(seed, i, bench, plain, call("ask", i % 6, 0, 1 + i / 18, i / 6 % 3));
        }
        for (int q = 2; q <= 1000; q += 83) {
            compare(seed, q, bench, plain, call("span", 0, 1, 1 + random.nextInt(q - 1), q));
            for (int what = -1; what <= 4; what++) {
                compare(seed, q, bench, plain, call("ends", what));
            }
            compare(seed, q, bench, plain, call("held", 1 + random.nextInt(q - 1), q));
            for (int i = 0; i <= 20; i++) {
                compare(seed, q, bench, plain, call("asked", i, 2));
            }
        }
    }

    private static int[] arguments(String[] call) {
        int[] n = new int[5];
        for (int k = 1; k < call.length; k++) {
            n[k - 1] = Integer.parseInt(call[k]);
        }
        return n;
    }

    private static String[] call(String name, int... arguments) {
        String[] call = new String[arguments.length + 1];
        call[0] = name;
        for (int i = 0; i < arguments.length; i++) {
            call[i + 1] = String.valueOf(arguments[i]);
        }
        return call;
    }

    private static String[] randomCall(Random random, Plain plain, int most, int reach) {
        int a = random.nextInt(30) == 0 ? random.nextInt(11) - 2 : random.nextInt(3);
        int b = random.nextInt(30) == 0 ? random.nextInt(11) - 2 : random.nextInt(3);
        int test = random.nextInt(25) == 0 ? random.nextInt(9) - 2 : random.nextInt(6);
        int side = random.nextInt(25) == 0 ? random.nextInt(7) - 2 : random.nextInt(3);
        int what = random.nextInt(8) - 1;
        int q = random.nextInt(8) == 0 ? random.nextInt(1100) - 50 : random.nextInt(20) + 1;
        int p = random.nextInt(8) == 0 ? random.nextInt(1100) - 50 : random.nextInt(Math.max(1, q)) + 1;
        boolean full = a >= 0 && a < 8 && plain.samples.get(a).size() >= most;
        switch (random.nextInt(24)) {
            case 0: case 1: case 2: case 3:
                if (full && random.nextInt(most == 20 ? 2 : 4000) != 0) {
                    return call("drop", a);
                }
                return call("put", a, random.nextInt(20) == 0 ? random.nextInt(1101) - 550 : random.nextInt(2 * reach + 1) - reach);
            case 4:
                return random.nextInt(6) == 0 ? call("drop", a) : call("noughts", a, b);
            case 5:
                return call("turn", a, random.nextInt(24) - 12, random.nextInt(4) == 0 ? random.nextInt(2201) - 1100 : random.nextInt(9) - 4);
            case 6:
                return call("number", a, random.nextInt(most + 2) - 1);
            case 7:
                return call("rank", a, b, random.nextInt(2 * most + 2) - 1);
            case 8:
                return call("score", test, a, b);
            case 9:
                return call("total", test, a, b);
            case 10: case 11:
                return call("count", test, a, b, side);
            case 12:
                return call("spread", test, a, b);
            case 13: case 14:
                return call("row", random.nextInt(12) - 1, random.nextInt(4) - 1);
            case 15:
                return call("span", a, b, p, q);
            case 16:
                return call("ends", what);
            case 17:
                return call("pairs", a, b, random.nextInt(30) - 2);
            case 18:
                return random.nextInt(4) == 0 ? call("table", random.nextInt(6), random.nextInt(7))
                        : call("margins", what);
            case 19:
                return call("cell", random.nextInt(5) - 1, random.nextInt(6) - 1, random.nextInt(10) == 0 ? random.nextInt(44) - 2 : random.nextInt(5));
            case 20:
                return call("margins", what);
            case 21:
                return call("ask", test, a, b, side);
            case 22:
                return call("asked", random.nextInt(22) - 1, random.nextInt(5) - 1);
            default:
                return random.nextInt(20) == 0 ? call("anew") : call("held", p, q);
        }
    }

    private static void compare(int seed, int i, CloudBench bench, Plain plain, String[] call) {
        int[] n = arguments(call);
        String got = answer(bench, call[0], n);
        String want = plain.answer(call[0], n);
        if (!got.equals(want)) {
            wrong++;
            if (wrong <= 20) {
                System.out.println("seed " + seed + ", call " + i + ": " + Arrays.toString(call) + " answered " + got + ", due is " + want);
            }
        }
    }

    private static String answer(CloudBench x, String name, int[] n) {
        try {
            switch (name) {
                case "put": return "" + x.put(n[0], n[1]);
                case "drop": return "" + x.drop(n[0]);
                case "turn": return "" + x.turn(n[0], n[1], n[2]);
                case "number": return "" + x.number(n[0], n[1]);
                case "rank": return "" + x.rank(n[0], n[1], n[2]);
                case "noughts": return "" + x.noughts(n[0], n[1]);
                case "score": return "" + x.score(n[0], n[1], n[2]);
                case "total": return "" + x.total(n[0], n[1], n[2]);
                case "count": return "" + x.count(n[0], n[1], n[2], n[3]);
                case "spread": return "" + x.spread(n[0], n[1], n[2]);
                case "row": return "" + x.row(n[0], n[1]);
                case "span": return "" + x.span(n[0], n[1], n[2], n[3]);
                case "ends": return "" + x.ends(n[0]);
                case "pairs": return "" + x.pairs(n[0], n[1], n[2]);
                case "table": return "" + x.table(n[0], n[1]);
                case "cell": return "" + x.cell(n[0], n[1], n[2]);
                case "margins": return "" + x.margins(n[0]);
                case "ask": return "" + x.ask(n[0], n[1], n[2], n[3]);
                case "asked": return "" + x.asked(n[0], n[1]);
                case "held": return "" + x.held(n[0], n[1]);
                default:
                    x.anew();
                    return "";
            }
        } catch (RuntimeException e) {
            return e.getClass().getSimpleName();
        }
    }

    private static BigInteger big(long n) {
        return BigInteger.valueOf(n);
    }

    private static BigInteger factorial(int n) {
        return n <= 1 ? BigInteger.ONE : big(n).multiply(factorial(n - 1));
    }

    private static BigInteger choose(int n, int k) {
        return factorial(n).divide(factorial(k)).divide(factorial(n - k));
    }

    /** The document read word by word, with no care for speed or room. */
    private static final class Plain {
        final List<List<Integer>> samples = new ArrayList<>();
        List<Map.Entry<Long, BigInteger>> spread = new ArrayList<>();
        int[] ends = null;
        int[][] table = new int[2][2];
        final List<BigInteger[]> list = new ArrayList<>();
        final TreeSet<Integer> different = new TreeSet<>();
        String known = "";
        TreeMap<Long, BigInteger> knownScores = null;

        Plain() {
            for (int i = 0; i < 8; i++) {
                samples.add(new ArrayList<>());
            }
        }

        String answer(String name, int[] n) {
            switch (name) {
                case "put": case "drop": case "turn": case "number":
                    return ofSample(name, n);
                case "rank":
                    if (!two(n[0], n[1]) || n[2] < 0 || n[2] >= all(n[0], n[1]).size()) {
                        return "-1";
                    }
                    return "" + ranks(all(n[0], n[1])).get(n[2]);
                case "noughts":
                    if (!two(n[0], n[1]) || samples.get(n[0]).size() != samples.get(n[1]).size()) {
                        return "-1";
                    }
                    return "" + (samples.get(n[0]).size() - differences(n[0], n[1]).size());
                case "score": case "total": case "count": case "spread": case "ask":
                    return ofQuestion(name, n);
                case "row":
                    if (n[0] < 0 || n[0] >= Math.min(2000, spread.size()) || n[1] < 0 || n[1] > 1) {
                        return "-1";
                    }
                    return "" + (n[1] == 0 ? spread.get(n[0]).getKey() : spread.get(n[0]).getValue());
                case "span":
                    return "" + span(n[0], n[1], n[2], n[3]);
                case "ends":
                    return "" + (ends == null || n[0] < 0 || n[0] > 3 ? -1 : ends[n[0]]);
                case "pairs":
                    if (!two(n[0], n[1])) {
                        return "-1";
                    }
                    return "" + pairs(samples.get(n[0]).size(), samples.get(n[1]).size(), n[2], new HashMap<>());
                case "table": case "cell": case "margins":
                    return ofTable(name, n);
                case "asked":
                    return asked(n[0], n[1]);
                case "held":
                    return "" + held(n[0], n[1]);
                default:
                    list.clear();
                    different.clear();
                    return "";
            }
        }

        private boolean two(int a, int b) {
            return a >= 0 && a < 8 && b >= 0 && b < 8 && a != b && !samples.get(a).isEmpty() && !samples.get(b).isEmpty();
        }

        private String ofSample(String name, int[] n) {
            boolean there = n[0] >= 0 && n[0] < 8;
            List<Integer> sample = there ? samples.get(n[0]) : new ArrayList<>();
            switch (name) {
                case "put":
                    if (!there || Math.abs((long) n[1]) > 500 || sample.size() == 20) {
                        return "-1";
                    }
                    sample.add(n[1]);
                    return "" + sample.size();
                case "drop":
                    int had = sample.size();
                    sample.clear();
                    return there ? "" + had : "-1";
                case "turn":
                    if (!there || Math.abs(n[1]) > 10 || Math.abs(n[2]) > 1000) {
                        return "false";
                    }
                    List<Integer> turned = new ArrayList<>();
                    for (int v : sample) {
                        turned.add(v * n[1] + n[2]);
                    }
                    for (int v : turned) {
                        if (Math.abs(v) > 500) {
                            return "false";
                        }
                    }
                    samples.set(n[0], turned);
                    return "true";
                default:
                    return there && n[1] >= 0 && n[1] < sample.size() ? "" + sample.get(n[1]) : "IndexOutOfBoundsException";
            }
        }

        private List<Integer> all(int a, int b) {
            List<Integer> all = new ArrayList<>(samples.get(a));
            all.addAll(samples.get(b));
            return all;
        }

        private static List<Integer> ranks(List<Integer> numbers) {
            List<Integer> ranks = new ArrayList<>();
            for (int v : numbers) {
                int less = 0;
                int alike = 0;
                for (int w : numbers) {
                    less += w < v ? 1 : 0;
                    alike += w == v ? 1 : 0;
                }
                ranks.add(2 * less + alike + 1);
            }
            return ranks;
        }

        private List<Integer> differences(int a, int b) {
            List<Integer> differences = new ArrayList<>();
            for (int i = 0; i < samples.get(a).size(); i++) {
                int d = samples.get(a).get(i) - samples.get(b).get(i);
                if (d != 0) {
                    differences.add(d);
                }
            }
            return differences;
        }

        private static List<Integer> sizes(List<Integer> differences) {
            List<Integer> sizes = new ArrayList<>();
            for (int d : differences) {
                sizes.add(Math.abs(d));
            }
            return sizes;
        }

        private boolean canBeAsked(int test, int a, int b) {
            if (test < 0 || test > 5 || !two(a, b)) {
                return false;
            }
            List<Integer> as = samples.get(a);
            List<Integer> bs = samples.get(b);
            if (test >= 3 && as.size() != bs.size()) {
                return false;
            }
            return test != 5 || new TreeSet<>(as).size() == as.size() && new TreeSet<>(bs).size() == bs.size();
        }

        private String ofQuestion(String name, int[] n) {
            boolean counts = name.equals("count") || name.equals("ask");
            boolean can = canBeAsked(n[0], n[1], n[2]) && (!counts || n[3] >= 0 && n[3] <= 2);
            if (name.equals("ask") && (!can || list.size() == 20)) {
                return "-1";
            }
            if (!can) {
                return NOT_ASKED;
            }
            long score = score(n[0], n[1], n[2]);
            if (name.equals("score")) {
                return "" + score;
            }
            TreeMap<Long, BigInteger> scores = scores(n[0], n[1], n[2]);
            BigInteger total = BigInteger.ZERO;
            BigInteger count = BigInteger.ZERO;
            for (Map.Entry<Long, BigInteger> e : scores.entrySet()) {
                total = total.add(e.getValue());
                boolean in = n[3] == 0 ? e.getKey() >= score : n[3] == 1 ? e.getKey() <= score
                        : far(n[0], n[1], n[2], e.getKey()) >= far(n[0], n[1], n[2], score);
                count = in ? count.add(e.getValue()) : count;
            }
            switch (name) {
                case "total":
                    return "" + total;
                case "count":
                    return "" + count;
                case "spread":
                    spread = new ArrayList<>(scores.entrySet());
                    return "" + scores.size();
                default:
                    list.add(new BigInteger[] {count, total});
                    return "" + (list.size() - 1);
            }
        }

        private long far(int test, int a, int b, long score) {
            int na = samples.get(a).size();
            int n = na + samples.get(b).size();
            switch (test) {
                case 0:
                    return Math.abs(n * score - na * sum(all(a, b)));
                case 1:
                    return Math.abs(score - na * (n + 1));
                case 3:
                    return Math.abs(2 * score - sum(ranks(sizes(differences(a, b)))));
                default:
                    return Math.abs(score);
            }
        }

        private static long sum(List<Integer> numbers) {
            long sum = 0;
            for (int v : numbers) {
                sum += v;
            }
            return sum;
        }

        private long score(int test, int a, int b) {
            List<Integer> all = all(a, b);
            int na = samples.get(a).size();
            boolean[] chosen = new boolean[all.size()];
            Arrays.fill(chosen, 0, na, true);
            if (test <= 2) {
                return scoreOfChoice(test, all, chosen, na);
            }
            if (test == 5) {
                return agreement(samples.get(a), samples.get(b));
            }
            List<Integer> differences = differences(a, b);
            return scoreOfSigns(test, differences, ranks(sizes(differences)));
        }

        private static long scoreOfChoice(int test, List<Integer> all, boolean[] chosen, int na) {
            List<Integer> values = test == 1 ? ranks(all) : all;
            long score = 0;
            for (int i = 0; i < chosen.length && test <= 1; i++) {
                score += chosen[i] ? values.get(i) : 0;
            }
            for (int x = -501; x <= 501 && test == 2; x++) {
                long gap = 0;
                for (int i = 0; i < chosen.length; i++) {
                    gap += all.get(i) > x ? 0 : chosen[i] ? chosen.length - na : -na;
                }
                score = Math.max(score, Math.abs(gap));
            }
            return score;
        }

        private static long scoreOfSigns(int test, List<Integer> differences, List<Integer> ranks) {
            long score = 0;
            for (int i = 0; i < differences.size(); i++) {
                score += test == 4 ? differences.get(i) : differences.get(i) > 0 ? ranks.get(i) : 0;
            }
            return score;
        }

        private static long agreement(List<Integer> as, List<Integer> bs) {
            long score = 0;
            for (int i = 0; i < as.size(); i++) {
                for (int j = i + 1; j < as.size(); j++) {
                    score += Integer.signum(as.get(j) - as.get(i)) * Integer.signum(bs.get(j) - bs.get(i));
                }
            }
            return score;
        }

        private TreeMap<Long, BigInteger> scores(int test, int a, int b) {
            String key = test + " " + samples.get(a) + " " + samples.get(b);
            if (!key.equals(known)) {
                knownScores = countScores(test, a, b);
                known = key;
            }
            return knownScores;
        }

        private TreeMap<Long, BigInteger> countScores(int test, int a, int b) {
            TreeMap<Long, BigInteger> scores = new TreeMap<>();
            List<Integer> all = all(a, b);
            int na = samples.get(a).size();
            if (test <= 2) {
                if (all.size() <= 10 && (test < 2 || all.size() <= 6)) {
                    everyChoice(test, all, na, scores);
                } else if (test == 2) {
                    gapsInMaps(all, na, scores);
                } else {
                    sumsInMaps(test == 0 ? all : ranks(all), na, scores);
                }
            } else if (test == 5) {
                if (na <= 5) {
                    everyOrder(samples.get(a), new ArrayList<>(), samples.get(b), scores);
                } else {
                    ordersByInsertion(na, scores);
                }
            } else {
                everyTurning(test, differences(a, b), scores);
            }
            return scores;
        }

        private static void everyChoice(int test, List<Integer> all, int na, TreeMap<Long, BigInteger> scores) {
            for (int mask = 0; mask < 1 << all.size(); mask++) {
                if (Integer.bitCount(mask) == na) {
                    boolean[] chosen = new boolean[all.size()];
                    for (int i = 0; i < chosen.length; i++) {
                        chosen[i] = (mask >> i & 1) == 1;
                    }
                    scores.merge(scoreOfChoice(test, all, chosen, na), BigInteger.ONE, BigInteger::add);
                }
            }
        }

        private static void sumsInMaps(List<Integer> values, int na, TreeMap<Long, BigInteger> scores) {
            List<Map<Long, BigInteger>> sums = new ArrayList<>();
            for (int j = 0; j <= na; j++) {
                sums.add(new HashMap<>());
            }
            sums.get(0).put(0L, BigInteger.ONE);
            for (int v : values) {
                for (int j = na; j >= 1; j--) {
                    for (Map.Entry<Long, BigInteger> e : sums.get(j - 1).entrySet()) {
                        sums.get(j).merge(e.getKey() + v, e.getValue(), BigInteger::add);
                    }
                }
            }
            scores.putAll(sums.get(na));
        }

        private static void gapsInMaps(List<Integer> all, int na, TreeMap<Long, BigInteger> scores) {
            TreeMap<Integer, Integer> alike = new TreeMap<>();
            for (int v : all) {
                alike.merge(v, 1, Integer::sum);
            }
            int nb = all.size() - na;
            int passed = 0;
            Map<Integer, Map<Long, BigInteger>> now = new HashMap<>();
            now.put(0, new HashMap<>(Map.of(0L, BigInteger.ONE)));
            for (int group : alike.values()) {
                Map<Integer, Map<Long, BigInteger>> next = new HashMap<>();
                passed += group;
                for (int chosen : now.keySet()) {
                    for (int t = 0; t <= group && chosen + t <= na; t++) {
                        long gap = Math.abs((long) nb * (chosen + t) - (long) na * (passed - chosen - t));
                        Map<Long, BigInteger> to = next.computeIfAbsent(chosen + t, k -> new HashMap<>());
                        for (Map.Entry<Long, BigInteger> e : now.get(chosen).entrySet()) {
                            to.merge(Math.max(gap, e.getKey()), e.getValue().multiply(choose(group, t)), BigInteger::add);
                        }
                    }
                }
                now = next;
            }
            scores.putAll(now.get(na));
        }

        private static void everyTurning(int test, List<Integer> differences, TreeMap<Long, BigInteger> scores) {
            List<Integer> ranks = ranks(sizes(differences));
            Map<Long, BigInteger> now = new HashMap<>();
            now.put(0L, BigInteger.ONE);
            for (int i = 0; i < ranks.size(); i++) {
                Map<Long, BigInteger> next = new HashMap<>();
                long size = Math.abs(differences.get(i));
                for (Map.Entry<Long, BigInteger> e : now.entrySet()) {
                    next.merge(e.getKey() + (test == 3 ? ranks.get(i) : size), e.getValue(), BigInteger::add);
                    next.merge(e.getKey() - (test == 3 ? 0 : size), e.getValue(), BigInteger::add);
                }
                now = next;
            }
            scores.putAll(now);
        }

        private static void everyOrder(List<Integer> as, List<Integer> taken, List<Integer> left, TreeMap<Long, BigInteger> scores) {
            if (left.isEmpty()) {
                scores.merge(agreement(as, taken), BigInteger.ONE, BigInteger::add);
            }
            for (int i = 0; i < left.size(); i++) {
                List<Integer> more = new ArrayList<>(taken);
                List<Integer> rest = new ArrayList<>(left);
                more.add(rest.remove(i));
                everyOrder(as, more, rest, scores);
            }
        }

        private static void ordersByInsertion(int n, TreeMap<Long, BigInteger> scores) {
            scores.put(0L, BigInteger.ONE);
            for (int i = 2; i <= n; i++) {
                TreeMap<Long, BigInteger> next = new TreeMap<>();
                for (Map.Entry<Long, BigInteger> e : scores.entrySet()) {
                    for (int out = 0; out < i; out++) {
                        next.merge(e.getKey() + (i - 1) - 2 * out, e.getValue(), BigInteger::add);
                    }
                }
                scores.clear();
                scores.putAll(next);
            }
        }

        private static BigInteger pairs(int chosen, int others, int u, Map<Integer, BigInteger> seen) {
            if (u < 0 || u > chosen * others) {
                return BigInteger.ZERO;
            }
            if (chosen == 0 || others == 0) {
                return BigInteger.ONE;
            }
            int key = (chosen * 21 + others) * 401 + u;
            if (!seen.containsKey(key)) {
                // the greatest of all is chosen, or it isn't
                seen.put(key, pairs(chosen - 1, others, u - others, seen).add(pairs(chosen, others - 1, u, seen)));
            }
            return seen.get(key);
        }

        private int span(int a, int b, int p, int q) {
            if (!two(a, b) || p <= 0 || p >= q || q > 1000) {
                return -1;
            }
            List<Integer> d = new ArrayList<>();
            for (int v : samples.get(a)) {
                for (int w : samples.get(b)) {
                    d.add(v - w);
                }
            }
            d.sort(null);
            int na = samples.get(a).size();
            int nb = samples.get(b).size();
            Map<Integer, BigInteger> seen = new HashMap<>();
            int best = 0;
            BigInteger below = BigInteger.ZERO;
            for (int k = 1; k <= d.size() + 1; k++) {
                below = below.add(pairs(na, nb, k - 1, seen));
                if (below.multiply(big(2L * q)).compareTo(choose(na + nb, na).multiply(big(p))) <= 0) {
                    best = k;
                }
            }
            int m = d.size();
            int middle = m % 2 == 0 ? d.get(m / 2 - 1) + d.get(m / 2) : 2 * d.get(m / 2);
            ends = best == 0 ? new int[] {0, 0, 0, middle} : new int[] {d.get(best - 1), d.get(m - best), 1, middle};
            return best;
        }

        private String ofTable(String name, int[] n) {
            switch (name) {
                case "table":
                    if (n[0] < 2 || n[0] > 3 || n[1] < 2 || n[1] > 4) {
                        return "false";
                    }
                    table = new int[n[0]][n[1]];
                    return "true";
                case "cell":
                    if (n[0] < 0 || n[0] >= table.length || n[1] < 0 || n[1] >= table[0].length || n[2] < 0) {
                        return "false";
                    }
                    long all = n[2] - table[n[0]][n[1]];
                    for (int[] row : table) {
                        for (int v : row) {
                            all += v;
                        }
                    }
                    if (all > 40) {
                        return "false";
                    }
                    table[n[0]][n[1]] = n[2];
                    return "true";
                default:
                    return margins(n[0]);
            }
        }

        private String margins(int what) {
            if (what < 0 || what > 5) {
                return "-1";
            }
            BigInteger own = sharings(table);
            if (what == 1) {
                return "" + own;
            }
            BigInteger[] figures = new BigInteger[6];
            Arrays.fill(figures, BigInteger.ZERO);
            int[] lack = new int[table.length];
            for (int i = 0; i < lack.length; i++) {
                for (int v : table[i]) {
                    lack[i] += v;
                }
            }
            int[] columns = new int[table[0].length];
            for (int j = 0; j < columns.length; j++) {
                for (int[] row : table) {
                    columns[j] += row[j];
                }
            }
            everyTable(new int[table.length][columns.length], 0, lack, columns, own, figures);
            return "" + figures[what];
        }

        private void everyTable(int[][] filled, int place, int[] lack, int[] columns, BigInteger own, BigInteger[] figures) {
            int i = place % filled.length;
            int j = place / filled.length;
            if (j == columns.length) {
                for (int l : lack) {
                    if (l != 0) {
                        return;
                    }
                }
                BigInteger ways = sharings(filled);
                figures[0] = figures[0].add(ways);
                figures[2] = ways.compareTo(own) <= 0 ? figures[2].add(ways) : figures[2];
                figures[3] = figures[3].add(BigInteger.ONE);
                figures[4] = filled[0][0] >= table[0][0] ? figures[4].add(ways) : figures[4];
                figures[5] = filled[0][0] <= table[0][0] ? figures[5].add(ways) : figures[5];
                return;
            }
            boolean last = i == filled.length - 1;
            for (int v = last ? columns[j] : 0; v <= Math.min(lack[i], columns[j]); v++) {
                filled[i][j] = v;
                lack[i] -= v;
                columns[j] -= v;
                everyTable(filled, place + 1, lack, columns, own, figures);
                lack[i] += v;
                columns[j] += v;
            }
        }

        private static BigInteger sharings(int[][] filled) {
            BigInteger ways = BigInteger.ONE;
            for (int j = 0; j < filled[0].length; j++) {
                int sum = 0;
                for (int[] row : filled) {
                    sum += row[j];
                }
                ways = ways.multiply(factorial(sum));
                for (int[] row : filled) {
                    ways = ways.divide(factorial(row[j]));
                }
            }
            return ways;
        }

        private String asked(int i, int what) {
            if (i < 0 || i >= list.size() || what < 0 || what > 2) {
                return "-1";
            }
            return "" + (what < 2 ? list.get(i)[what] : big(different.contains(i) ? 1 : 0));
        }

        private int held(int p, int q) {
            if (p <= 0 || p >= q || q > 1000) {
                return -1;
            }
            List<Integer> order = new ArrayList<>();
            for (int i = 0; i < list.size(); i++) {
                order.add(i);
            }
            order.sort((x, y) -> list.get(x)[0].multiply(list.get(y)[1]).compareTo(list.get(y)[0].multiply(list.get(x)[1])));
            different.clear();
            for (int i = 0; i < order.size(); i++) {
                BigInteger[] chance = list.get(order.get(i));
                if (chance[0].multiply(big((long) q * (order.size() - i))).compareTo(chance[1].multiply(big(p))) > 0) {
                    break;
                }
                different.add(order.get(i));
            }
            return different.size();
        }
    }
}
