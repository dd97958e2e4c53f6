import java.util.NoSuchElementException;

/** Each promise of the document with answers worked out by hand: ordinary inputs, edges and wrong inputs. */
public final class PromisesTest {
    private static final int NONE = -1;
    private static int wrong = 0;

    public static void main(String[] args) {
        promise1New();
        promise2Put();
        promise3Drop();
        promise4Turn();
        promise5Number();
        promise6Rank();
        promise7Noughts();
        promise8Score();
        promise9Total();
        promise10Count();
        promise11And12Spread();
        promise12Row();
        promise13Span();
        promise14Ends();
        promise15Pairs();
        promise16Table();
        promise17Cell();
        promise18Margins();
        promise18Edges();
        promise19Ask();
        promise20Asked();
        promise21Held();
        promise22Anew();
        System.out.println(wrong == 0 ? "all promises are kept" : wrong + " answers are not as due");
        if (wrong != 0) {
            System.exit(1);
        }
    }

    private static void due(String call, long got, long want) {
        if (got != want) {
            wrong++;
            System.out.println(call + " answered " + got + ", due is " + want);
        }
    }

    private static void due(String call, boolean got, boolean want) {
        due(call, got ? 1 : 0, want ? 1 : 0);
    }

    private static CloudBench benchOf(int[]... samples) {
        CloudBench x = new CloudBench();
        for (int s = 0; s < samples.length; s++) {
            for (int v : samples[s]) {
                x.put(s, v);
            }
        }
        return x;
    }

    private static int[] of(int... numbers) {
        return numbers;
    }

    private static int[] rise(int size, int from, int step) {
        int[] numbers = new int[size];
        for (int i = 0; i < size; i++) {
            numbers[i] = from + i * step;
        }
        return numbers;
    }

    private static final int WRONG_EXCEPTION = -2;

    /** 1 if the call throws what it must when the question can't be asked, 0 if it throws nothing. */
    private static int refusal(CloudBench x, String call, int... n) {
        try {
            switch (call) {
                case "score":
                    x.score(n[0], n[1], n[2]);
                    break;
                case "total":
                    x.total(n[0], n[1], n[2]);
                    break;
                case "spread":
                    x.spread(n[0], n[1], n[2]);
                    break;
                case "count":
                    x.count(n[0], n[1], n[2], n[3]);
                    break;
                default:
                    x.number(n[0], n[1]);
                    break;
            }
            return 0;
        } catch (NoSuchElementException e) {
            return call.equals("number") ? WRONG_EXCEPTION : e.getClass() == NoSuchElementException.class ? 1 : WRONG_EXCEPTION;
        } catch (IndexOutOfBoundsException e) {
            return call.equals("number") && e.getClass() == IndexOutOfBoundsException.class ? 1 : WRONG_EXCEPTION;
        }
    }

    private static void promise1New() {
        CloudBench x = new CloudBench();
        due("NONE", CloudBench.NONE, -1);
        for (int s = 0; s < 8; s++) {
            due("new: number", refusal(x, "number", s, 0), 1);
            due("new: drop", x.drop(s), 0);
        }
        due("new: asked", x.asked(0, 0), NONE);
        due("new: held", x.held(1, 2), 0);
        due("new: row", x.row(0, 0), NONE);
        due("new: ends", x.ends(2), NONE);
        for (int what = 0; what <= 5; what++) {
            due("new: margins " + what, x.margins(what), 1);
        }
        due("new: 2 rows", x.cell(2, 0, 0), false);
        due("new: 2 columns", x.cell(0, 2, 0), false);
        due("new: last cell", x.cell(1, 1, 0), true);
    }

    private static void promise2Put() {
        CloudBench x = new CloudBench();
        due("put least", x.put(0, -500), 1);
        due("put greatest", x.put(0, 500), 2);
        due("put below", x.put(0, -501), NONE);
        due("put above", x.put(0, 501), NONE);
        due("put far above", x.put(0, Integer.MAX_VALUE), NONE);
        due("put far below", x.put(0, Integer.MIN_VALUE), NONE);
        due("put sample -1", x.put(-1, 0), NONE);
        due("put sample 8", x.put(8, 0), NONE);
        due("put sample far", x.put(Integer.MIN_VALUE, 0), NONE);
        due("put sample 7", x.put(7, 3), 1);
        due("put again", x.put(0, 500), 3);
        for (int i = 4; i <= 20; i++) {
            due("put " + i, x.put(0, i), i);
        }
        due("put to a full one", x.put(0, 0), NONE);
        due("put to a full one again", x.put(0, 1), NONE);
        due("full: first", x.number(0, 0), -500);
        due("full: last", x.number(0, 19), 20);
        due("full: behind", refusal(x, "number", 0, 20), 1);
        due("the others are apart", x.number(7, 0), 3);
    }

    private static void promise3Drop() {
        CloudBench x = benchOf(rise(20, 0, 1), of(5));
        due("drop -1", x.drop(-1), NONE);
        due("drop 8", x.drop(8), NONE);
        due("drop a full one", x.drop(0), 20);
        due("drop an empty one", x.drop(0), 0);
        due("dropped", refusal(x, "number", 0, 0), 1);
        due("the other stays", x.number(1, 0), 5);
        due("put anew", x.put(0, 9), 1);
        due("the new number", x.number(0, 0), 9);
        due("only the new number", refusal(x, "number", 0, 1), 1);
    }

    private static void promise4Turn() {
        CloudBench x = benchOf(of(50, -50, 7), of(1));
        due("turn sample -1", x.turn(-1, 1, 0), false);
        due("turn sample 8", x.turn(8, 1, 0), false);
        due("turn k 11", x.turn(0, 11, 0), false);
        due("turn k -11", x.turn(0, -11, 0), false);
        due("turn c 1001", x.turn(2, 1, 1001), false);
        due("turn c -1001", x.turn(2, 1, -1001), false);
        due("turn far k", x.turn(0, Integer.MIN_VALUE, 0), false);
        due("turn far c", x.turn(0, 1, Integer.MAX_VALUE), false);
        due("turn an empty one", x.turn(2, 10, 1000), true);
        due("turn beyond", x.turn(0, 10, 1), false);
        due("turn beyond below", x.turn(0, 10, -1), false);
        due("nothing happened 0", x.number(0, 0), 50);
        due("nothing happened 1", x.number(0, 1), -50);
        due("nothing happened 2", x.number(0, 2), 7);
        due("turn to the edges", x.turn(0, -10, 0), true);
        due("turned 0", x.number(0, 0), -500);
        due("turned 1", x.number(0, 1), 500);
        due("turned 2", x.number(0, 2), -70);
        due("the other stays", x.number(1, 0), 1);
        due("turn to one", x.turn(0, 0, 500), true);
        due("turned all 0", x.number(0, 0), 500);
        due("turned all 2", x.number(0, 2), 500);
        due("turn back", x.turn(0, 1, -1000), true);
        due("turned back", x.number(0, 1), -500);
        due("times and shift", x.turn(1, 3, -5), true);
        due("3 times 1 less 5", x.number(1, 0), -2);
        due("turn with k 0 beyond", x.turn(1, 0, 501), false);
    }

    private static void promise5Number() {
        CloudBench x = benchOf(of(4, -4));
        due("number 0", x.number(0, 0), 4);
        due("number 1", x.number(0, 1), -4);
        due("number 2", refusal(x, "number", 0, 2), 1);
        due("number -1", refusal(x, "number", 0, -1), 1);
        due("number far", refusal(x, "number", 0, Integer.MAX_VALUE), 1);
        due("number of -1", refusal(x, "number", -1, 0), 1);
        due("number of 8", refusal(x, "number", 8, 0), 1);
        due("number of an empty one", refusal(x, "number", 7, 0), 1);
    }

    private static void promise6Rank() {
        CloudBench x = benchOf(of(3, 1, 3), of(2, 3), of());
        int[] want = {8, 2, 8, 4, 8};
        for (int k = 0; k < 5; k++) {
            due("rank " + k, x.rank(0, 1, k), want[k]);
        }
        due("rank, b first", x.rank(1, 0, 0), 4);
        due("rank, b's last", x.rank(1, 0, 4), 8);
        due("rank -1", x.rank(0, 1, -1), NONE);
        due("rank 5", x.rank(0, 1, 5), NONE);
        due("rank of an empty one", x.rank(0, 2, 0), NONE);
        due("rank of an empty one ahead", x.rank(2, 0, 0), NONE);
        due("rank of like samples", x.rank(0, 0, 0), NONE);
        due("rank of -1", x.rank(-1, 0, 0), NONE);
        due("rank of 8", x.rank(0, 8, 0), NONE);
        CloudBench full = benchOf(rise(20, 500, -1), rise(20, 480, -1));
        due("rank of the greatest of 40", full.rank(0, 1, 0), 80);
        due("rank of the least of 40", full.rank(0, 1, 39), 2);
        due("rank behind 40", full.rank(0, 1, 40), NONE);
    }

    private static void promise7Noughts() {
        CloudBench x = benchOf(of(1, 2, 3), of(1, 5, 3), of(1), of(), of(3, 1, 2));
        due("noughts", x.noughts(0, 1), 2);
        due("noughts the other way", x.noughts(1, 0), 2);
        due("no noughts", x.noughts(0, 4), 0);
        due("noughts of unlike sizes", x.noughts(0, 2), NONE);
        due("noughts of an empty one", x.noughts(0, 3), NONE);
        due("noughts of two empty ones", x.noughts(3, 5), NONE);
        due("noughts of like samples", x.noughts(0, 0), NONE);
        due("noughts of -1", x.noughts(-1, 0), NONE);
        due("noughts of 8", x.noughts(0, 8), NONE);
    }

    private static void promise8Score() {
        CloudBench x = benchOf(of(5, 1, 9, 4), of(2, 1, 3, 8), of(7), of(), of(-500), of(500));
        due("score 0", x.score(0, 0, 1), 19);
        due("score 0, the other way", x.score(0, 1, 0), 14);
        // all: 5 1 9 4 2 1 3 8; doubled ranks: 12 3 16 10 6 3 8 14
        due("score 1", x.score(1, 0, 1), 41);
        due("score 1, the other way", x.score(1, 1, 0), 31);
        // up to 3: one of a, three of b
        due("score 2", x.score(2, 0, 1), 8);
        // differences 3 0 6 -4: doubled ranks 2, 6, 4
        due("score 3", x.score(3, 0, 1), 8);
        due("score 3, the other way", x.score(3, 1, 0), 4);
        due("score 4", x.score(4, 0, 1), 5);
        due("score 4, the other way", x.score(4, 1, 0), -5);
        // the six pairs: 5 1 / 2 1 in, 5 9 / 2 3 in, 5 4 / 2 8 out, 1 9 / 1 3 in, 1 4 / 1 8 in, 9 4 / 3 8 out
        due("score 5", x.score(5, 0, 1), 2);
        due("score 2 of unlike sizes", x.score(2, 0, 2), 3);
        due("score 0 of edges", x.score(0, 4, 5), -500);
        due("score 4 of edges", x.score(4, 4, 5), -1000);
        due("score 5 of one", x.score(5, 4, 5), 0);
        refuses("score", x);
    }

    private static void refuses(String call, CloudBench x) {
        due(call + " test -1", refusal(x, call, -1, 0, 1, 0), 1);
        due(call + " test 6", refusal(x, call, 6, 0, 1, 0), 1);
        due(call + " test far", refusal(x, call, Integer.MAX_VALUE, 0, 1, 0), 1);
        for (int test = 0; test <= 5; test++) {
            due(call + " may be asked " + test, refusal(x, call, test, 0, 1, 0), 0);
            due(call + " sample -1, test " + test, refusal(x, call, test, -1, 1, 0), 1);
            due(call + " sample 8, test " + test, refusal(x, call, test, 0, 8, 0), 1);
            due(call + " like samples, test " + test, refusal(x, call, test, 0, 0, 0), 1);
            due(call + " an empty one, test " + test, refusal(x, call, test, 0, 3, 0), 1);
            due(call + " an empty one ahead, test " + test, refusal(x, call, test, 3, 0, 0), 1);
            due(call + " two empty ones, test " + test, refusal(x, call, test, 3, 7, 0), 1);
            due(call + " unlike sizes, test " + test, refusal(x, call, test, 0, 2, 0), test >= 3 ? 1 : 0);
        }
        CloudBench twice = benchOf(of(1, 2, 1), of(4, 5, 6), of(7, 7, 8));
        due(call + " a number twice ahead", refusal(twice, call, 5, 0, 1, 0), 1);
        due(call + " a number twice behind", refusal(twice, call, 5, 1, 2, 0), 1);
        due(call + " twice is no matter to 4", refusal(twice, call, 4, 0, 2, 0), 0);
    }

    private static void promise9Total() {
        CloudBench x = benchOf(of(5, 1, 9, 4), of(2, 1, 3, 8), of(7), of(), of(1, 2), of(1, 2));
        for (int test = 0; test <= 2; test++) {
            due("total " + test, x.total(test, 0, 1), 70);
            due("total of 5, " + test, x.total(test, 0, 2), 5);
            due("total of 5, the other way " + test, x.total(test, 2, 0), 5);
        }
        due("total 3", x.total(3, 0, 1), 8);
        due("total 4", x.total(4, 0, 1), 8);
        due("total 5", x.total(5, 0, 1), 24);
        due("total 3 without differences", x.total(3, 4, 5), 1);
        due("total 4 without differences", x.total(4, 4, 5), 1);
        CloudBench full = benchOf(rise(20, -500, 1), rise(20, 481, 1));
        for (int test = 0; test <= 2; test++) {
            due("total of 40, " + test, full.total(test, 0, 1), 137846528820L);
        }
        due("total 3 of 20", full.total(3, 0, 1), 1048576);
        due("total 4 of 20", full.total(4, 0, 1), 1048576);
        due("total 5 of 20", full.total(5, 0, 1), 2432902008176640000L);
        refuses("total", x);
    }

    private static void promise10Count() {
        // sums of two of 1 2 4 8: 3 5 9 6 10 12; there is 9, all are 15: FAR 6 18 ..
        CloudBench x = benchOf(of(1, 8), of(2, 4), of(7), of());
        due("count 0 0", x.count(0, 0, 1, 0), 3);
        due("count 0 1", x.count(0, 0, 1, 1), 4);
        // FAR is 4 times the sum less 30: 18 10 6 6 10 18
        due("count 0 2", x.count(0, 0, 1, 2), 6);
        due("count 0 2 farther", benchOf(of(1, 4), of(2, 8)).count(0, 0, 1, 2), 4);
        // doubled ranks 2 8 4 6: sums of two 6 8 10 10 12 14; there is 10
        due("count 1 0", x.count(1, 0, 1, 0), 4);
        due("count 1 1", x.count(1, 0, 1, 1), 4);
        due("count 1 2", x.count(1, 0, 1, 2), 6);
        // gaps: the choice 1 2 or 4 8: 4; 1 4 or 2 8: 2; 1 8 or 2 4: 2
        due("count 2 0", x.count(2, 0, 1, 0), 6);
        due("count 2 1", x.count(2, 0, 1, 1), 4);
        due("count 2 2", x.count(2, 0, 1, 2), 6);
        // differences -1 4: doubled ranks 2 4, scores 0 2 4 6, there is 4; turns -5 -3 3 5, there is 3
        due("count 3 0", x.count(3, 0, 1, 0), 2);
        due("count 3 1", x.count(3, 0, 1, 1), 3);
        due("count 3 2", x.count(3, 0, 1, 2), 4);
        due("count 4 0", x.count(4, 0, 1, 0), 2);
        due("count 4 1", x.count(4, 0, 1, 1), 3);
        due("count 4 2", x.count(4, 0, 1, 2), 4);
        due("count 5 0", x.count(5, 0, 1, 0), 1);
        due("count 5 1", x.count(5, 0, 1, 1), 2);
        due("count 5 2", x.count(5, 0, 1, 2), 2);
        for (int test = 0; test <= 5; test++) {
            due("side -1", refusal(x, "count", test, 0, 1, -1), 1);
            due("side 3", refusal(x, "count", test, 0, 1, 3), 1);
        }
        due("side 0 is not beyond a number", refusal(x, "count", 6, 0, 1, 0), 1);
        refuses("count", benchOf(of(5, 1, 9, 4), of(2, 1, 3, 8), of(7), of()));
        CloudBench apart = benchOf(rise(20, -500, 1), rise(20, 481, 1));
        for (int test = 0; test <= 1; test++) {
            due("apart 0", apart.count(test, 0, 1, 0), 137846528820L);
            due("apart 1", apart.count(test, 0, 1, 1), 1);
            due("apart 2", apart.count(test, 0, 1, 2), 2);
        }
        due("apart most", apart.count(2, 0, 1, 0), 2);
        due("apart turns 1", apart.count(4, 0, 1, 1), 1);
        due("apart turns 2", apart.count(4, 0, 1, 2), 2);
        due("apart order 1", apart.count(5, 0, 1, 1), 2432902008176640000L);
    }

    private static void promise11And12Spread() {
        CloudBench x = benchOf(of(1, 8), of(2, 4), of(7), of());
        due("spread 0", x.spread(0, 0, 1), 6);
        rows("spread 0", x, of(3, 5, 6, 9, 10, 12), of(1, 1, 1, 1, 1, 1));
        due("spread 1", x.spread(1, 0, 1), 5);
        rows("spread 1", x, of(6, 8, 10, 12, 14), of(1, 1, 2, 1, 1));
        due("spread 2", x.spread(2, 0, 1), 2);
        rows("spread 2", x, of(2, 4), of(4, 2));
        due("spread 3", x.spread(3, 0, 1), 4);
        rows("spread 3", x, of(0, 2, 4, 6), of(1, 1, 1, 1));
        due("spread 4", x.spread(4, 0, 1), 4);
        rows("spread 4", x, of(-5, -3, 3, 5), of(1, 1, 1, 1));
        due("spread 5", x.spread(5, 0, 1), 2);
        rows("spread 5", x, of(-1, 1), of(1, 1));
        due("spread below 0", benchOf(of(-3), of(-1, -2)).spread(0, 0, 1), 3);
        due("spread 0 of one", x.spread(0, 2, 0), 3);
        rows("spread of one", x, of(1, 7, 8), of(1, 1, 1));
        CloudBench four = benchOf(of(10, 20, 30, 40), of(1, 2, 3, 4));
        due("spread 5 of 4", four.spread(5, 0, 1), 7);
        rows("spread 5 of 4", four, of(-6, -4, -2, 0, 2, 4, 6), of(1, 3, 5, 6, 5, 3, 1));
        refuses("spread", benchOf(of(5, 1, 9, 4), of(2, 1, 3, 8), of(7), of()));
    }

    private static void rows(String what, CloudBench x, int[] scores, int[] ways) {
        for (int k = 0; k < scores.length; k++) {
            due(what + ", row " + k, x.row(k, 0), scores[k]);
            due(what + ", ways " + k, x.row(k, 1), ways[k]);
        }
        due(what + ", row behind", x.row(scores.length, 0), NONE);
        due(what + ", ways behind", x.row(scores.length, 1), NONE);
    }

    private static void promise12Row() {
        CloudBench x = benchOf(of(1), of(2), of());
        due("row ahead of any", x.row(0, 0), NONE);
        due("ways ahead of any", x.row(0, 1), NONE);
        x.spread(0, 0, 1);
        due("row -1", x.row(-1, 0), NONE);
        due("row far", x.row(Integer.MAX_VALUE, 0), NONE);
        due("row, what -1", x.row(0, -1), NONE);
        due("row, what 2", x.row(0, 2), NONE);
        due("a refused spread", refusal(x, "spread", 0, 0, 2), 1);
        x.turn(0, 1, 100);
        x.drop(1);
        due("row as it was then", x.row(0, 0), 1);
        due("ways as they were then", x.row(1, 1), 1);
        // 11 sizes that double, 1 .. 1024 being too much: 1 2 4 .. 512 and two of 900 give many turns
        int[] doubling = of(1, 2, 4, 8, 16, 32, 64, 128, 256, 512, 900, 1000);
        CloudBench many = new CloudBench();
        for (int size : doubling) {
            many.put(0, size > 500 ? 500 : size);
            many.put(1, size > 500 ? 500 - size : 0);
        }
        // sums of the first ten are all of 0 .. 1023; 900, 1000 and 1900 more reach to 2923: all of 0 .. 2923
        due("spread of many", many.spread(4, 0, 1), 2924);
        due("the first row", many.row(0, 0), -2923);
        due("row 1999", many.row(1999, 0), -2923 + 2 * 1999);
        // 1999 is 0 and 1999 (no: at most 1023), 900 and 1099 (no), 1000 and 999, 1900 and 99
        due("ways 1999", many.row(1999, 1), 2);
        due("row 2000", many.row(2000, 0), NONE);
        due("ways 2000", many.row(2000, 1), NONE);
        due("row 2923", many.row(2923, 0), NONE);
        due("count has all", many.count(4, 0, 1, 1), 4096);
    }

    private static void promise13Span() {
        CloudBench x = benchOf(of(1, 2), of(3), of(), rise(20, 1, 1), rise(20, -20, 2));
        due("span without ends", x.span(0, 1, 1, 2), 0);
        due("span just with ends", x.span(0, 1, 2, 3), 1);
        due("span p 0", x.span(0, 1, 0, 1), NONE);
        due("span p -1", x.span(0, 1, -1, 2), NONE);
        due("span p is q", x.span(0, 1, 3, 3), NONE);
        due("span p above q", x.span(0, 1, 4, 3), NONE);
        due("span q 1001", x.span(0, 1, 1, 1001), NONE);
        due("span q below 0", x.span(0, 1, -2, -1), NONE);
        due("span of an empty one", x.span(0, 2, 1, 2), NONE);
        due("span of an empty one ahead", x.span(2, 0, 1, 2), NONE);
        due("span of like samples", x.span(0, 0, 1, 2), NONE);
        due("span of -1", x.span(-1, 0, 1, 2), NONE);
        due("span of 8", x.span(0, 8, 1, 2), NONE);
        due("span q 1000", x.span(0, 1, 999, 1000), 1);
        due("span p 1, q 1000", x.span(0, 1, 1, 1000), 0);
        // the table of the rank sum test for 20 and 20 at 0.05, two sides, has 127 as the greatest U: K is 128
        due("span of 20 and 20 at 0.05", x.span(3, 4, 1, 20), 128);
        // and 105 at 0.01
        due("span of 20 and 20 at 0.01", x.span(3, 4, 1, 100), 106);
    }

    private static void promise14Ends() {
        CloudBench x = benchOf(of(10, 1, 5), of(4, 0), of(7), of());
        due("ends ahead of any", x.ends(0), NONE);
        due("ends(3) ahead of any", x.ends(3), NONE);
        x.span(0, 3, 1, 2);
        due("ends behind NONE", x.ends(2), NONE);
        // differences -3 1 1 5 6 10; W is 1 1 2 2 2 1 1 of 10
        due("span", x.span(0, 1, 2, 5), 2);
        due("lower", x.ends(0), 1);
        due("upper", x.ends(1), 6);
        due("has ends", x.ends(2), 1);
        due("middle", x.ends(3), 6);
        due("ends(4)", x.ends(4), NONE);
        due("ends(-1)", x.ends(-1), NONE);
        x.span(0, 3, 1, 2);
        x.span(0, 1, 2, 2);
        x.turn(0, 2, 0);
        x.drop(1);
        due("as it was then: lower", x.ends(0), 1);
        due("as it was then: upper", x.ends(1), 6);
        due("as it was then: has ends", x.ends(2), 1);
        due("as it was then: middle", x.ends(3), 6);
        // 20 2 10 less 7: 13 -5 3, W is 1 1 1 1 of 4
        due("span without ends", x.span(0, 2, 1, 3), 0);
        due("without ends: lower", x.ends(0), 0);
        due("without ends: upper", x.ends(1), 0);
        due("without ends: has none", x.ends(2), 0);
        due("without ends: middle of three", x.ends(3), 6);
        due("span of three", x.span(0, 2, 1, 2), 1);
        due("three: lower", x.ends(0), -5);
        due("three: upper", x.ends(1), 13);
        CloudBench edges = benchOf(of(-500), of(500));
        due("one pair", edges.span(0, 1, 999, 1000), 0);
        due("one pair: middle", edges.ends(3), -2000);
    }

    private static void promise15Pairs() {
        CloudBench x = benchOf(of(9, 9, 9), of(1, 9), of(), of(4), rise(20, 1, 1), rise(20, 1, 1));
        int[] want = {1, 1, 2, 2, 2, 1, 1};
        for (int u = 0; u < want.length; u++) {
            due("pairs " + u, x.pairs(0, 1, u), want[u]);
            due("pairs, the other way " + u, x.pairs(1, 0, u), want[u]);
        }
        due("pairs 7", x.pairs(0, 1, 7), 0);
        due("pairs -1", x.pairs(0, 1, -1), 0);
        due("pairs far", x.pairs(0, 1, Integer.MAX_VALUE), 0);
        due("pairs far below", x.pairs(0, 1, Integer.MIN_VALUE), 0);
        due("pairs of an empty one", x.pairs(0, 2, 0), NONE);
        due("pairs of like samples", x.pairs(0, 0, 0), NONE);
        due("pairs of -1", x.pairs(-1, 0, 0), NONE);
        due("pairs of 8", x.pairs(0, 8, 0), NONE);
        due("pairs of an empty one and no u", x.pairs(2, 0, -1), NONE);
        due("pairs of 1 and 3", x.pairs(3, 0, 3), 1);
        due("pairs of 1 and 3 behind", x.pairs(3, 0, 4), 0);
        // small u: the partitions of u
        due("pairs of 20 and 20: 10", x.pairs(4, 5, 10), 42);
        due("pairs of 20 and 20: 390", x.pairs(4, 5, 390), 42);
        due("pairs of 20 and 20: 20", x.pairs(4, 5, 20), 627);
        // of 21 those with one part above 20, or more than 20 parts, fall out
        due("pairs of 20 and 20: 21", x.pairs(4, 5, 21), 790);
        due("pairs of 20 and 20: 401", x.pairs(4, 5, 401), 0);
    }

    private static void promise16Table() {
        CloudBench x = new CloudBench();
        x.cell(0, 0, 2);
        x.cell(0, 1, 1);
        x.cell(1, 0, 1);
        int[][] others = {{1, 2}, {4, 2}, {2, 1}, {2, 5}, {0, 0}, {-2, -2}, {Integer.MAX_VALUE, 2}, {3, 5}};
        for (int[] other : others) {
            due("table " + other[0] + " " + other[1], x.table(other[0], other[1]), false);
        }
        due("nothing happened", x.margins(0), 4);
        for (int rows = 2; rows <= 3; rows++) {
            for (int columns = 2; columns <= 4; columns++) {
                due("table", x.table(rows, columns), true);
                due("counts 0", x.margins(1) * x.margins(0), 1);
                due("the last place", x.cell(rows - 1, columns - 1, 40), true);
                due("none more", x.cell(0, 0, 1), false);
                due("no row more", x.cell(rows, 0, 0), false);
                due("no column more", x.cell(0, columns, 0), false);
            }
        }
        due("the same anew", x.table(3, 4), true);
        due("is empty", x.cell(0, 0, 40), true);
    }

    private static void promise17Cell() {
        CloudBench x = new CloudBench();
        due("cell -1", x.cell(-1, 0, 0), false);
        due("cell column -1", x.cell(0, -1, 0), false);
        due("cell v -1", x.cell(0, 0, -1), false);
        due("cell v 41", x.cell(0, 0, 41), false);
        due("cell v far", x.cell(0, 0, Integer.MAX_VALUE), false);
        due("cell v far below", x.cell(0, 0, Integer.MIN_VALUE), false);
        due("cell 40", x.cell(0, 0, 40), true);
        due("cell 1 more", x.cell(1, 1, 1), false);
        due("cell 0 more", x.cell(1, 1, 0), true);
        due("cell far more", x.cell(1, 1, Integer.MAX_VALUE), false);
        due("cell 40 again", x.cell(0, 0, 40), true);
        due("cell less", x.cell(0, 0, 2), true);
        due("cell 38", x.cell(1, 1, 38), true);
        due("cell 39", x.cell(1, 1, 39), false);
        due("two and 38 of 40", x.margins(0), 780);
        due("three tables", x.margins(3), 3);
    }

    private static void promise18Margins() {
        CloudBench x = new CloudBench();
        // 3 1 / 1 3 : rows 4 4, columns 4 4; sharings 1 16 36 16 1 of 70
        x.cell(0, 0, 3);
        x.cell(0, 1, 1);
        x.cell(1, 0, 1);
        x.cell(1, 1, 3);
        margins("tea", x, 70, 16, 34, 5, 17, 69);
        due("margins -1", x.margins(-1), NONE);
        due("margins 6", x.margins(6), NONE);
        due("margins far", x.margins(Integer.MAX_VALUE), NONE);
        // columns 1 2, rows 1 1 1: the first thing in one of 3 rows, 2 ways for the others
        x.table(3, 2);
        x.cell(0, 0, 1);
        x.cell(1, 1, 1);
        x.cell(2, 1, 1);
        margins("three rows", x, 6, 2, 6, 3, 2, 6);
        x.cell(0, 0, 0);
        x.cell(0, 1, 1);
        x.cell(1, 0, 1);
        x.cell(1, 1, 0);
        margins("three rows, first 0", x, 6, 2, 6, 3, 6, 4);
        // columns 2 1 1, rows 2 2: first row 2 0 0: 1, 1 1 0: 2, 1 0 1: 2, 0 1 1: 1
        x.table(2, 3);
        x.cell(0, 0, 1);
        x.cell(0, 1, 1);
        x.cell(1, 0, 1);
        x.cell(1, 2, 1);
        margins("three columns", x, 6, 2, 6, 4, 5, 5);
        x.cell(0, 0, 2);
        x.cell(0, 1, 0);
        x.cell(1, 0, 0);
        x.cell(1, 1, 1);
        margins("three columns, unlikely", x, 6, 1, 2, 4, 1, 6);
    }

    private static void margins(String what, CloudBench x, long... want) {
        for (int i = 0; i < want.length; i++) {
            due(what + ", margins " + i, x.margins(i), want[i]);
        }
    }

    private static void promise18Edges() {
        CloudBench x = new CloudBench();
        x.table(3, 4);
        // four columns of 10 in the first row but for one: rows 40 0 0
        for (int j = 0; j < 4; j++) {
            x.cell(0, j, 10);
        }
        margins("one row holds all", x, 1, 1, 1, 1, 1, 1);
        x.table(3, 4);
        x.cell(0, 0, 13);
        x.cell(1, 0, 13);
        x.cell(2, 0, 14);
        // 40! / (13! 13! 14!)
        margins("one column holds 40", x, 241365994493904000L, 241365994493904000L, 241365994493904000L, 1,
                241365994493904000L, 241365994493904000L);
        x.table(2, 4);
        x.cell(0, 0, 20);
        x.cell(1, 3, 20);
        margins("two rows apart", x, 137846528820L, 1, 2, 21, 1, 137846528820L);
    }

    private static void promise19Ask() {
        CloudBench x = benchOf(of(1, 8), of(2, 4), of(7), of(), of(3, 3));
        due("ask test -1", x.ask(-1, 0, 1, 0), NONE);
        due("ask test 6", x.ask(6, 0, 1, 0), NONE);
        due("ask side -1", x.ask(0, 0, 1, -1), NONE);
        due("ask side 3", x.ask(0, 0, 1, 3), NONE);
        due("ask like samples", x.ask(0, 1, 1, 0), NONE);
        due("ask an empty one", x.ask(0, 0, 3, 0), NONE);
        due("ask -1", x.ask(0, -1, 0, 0), NONE);
        due("ask 8", x.ask(0, 0, 8, 0), NONE);
        due("ask unlike sizes", x.ask(3, 0, 2, 0), NONE);
        due("ask twice a number", x.ask(5, 0, 4, 0), NONE);
        due("nothing came", x.asked(0, 0), NONE);
        for (int i = 0; i < 20; i++) {
            due("ask " + i, x.ask(i % 6, 0, 1, i % 3), i);
        }
        due("ask to a full list", x.ask(0, 0, 1, 0), NONE);
        due("the full list has no more", x.asked(20, 0), NONE);
        for (int i = 0; i < 20; i++) {
            due("asked count " + i, x.asked(i, 0), x.count(i % 6, 0, 1, i % 3));
            due("asked total " + i, x.asked(i, 1), x.total(i % 6, 0, 1));
        }
    }

    private static void promise20Asked() {
        CloudBench x = benchOf(of(1, 2, 3, 4, 5), of(11, 12, 13, 14, 15));
        due("asked ahead", x.asked(0, 0), NONE);
        x.ask(0, 0, 1, 1);
        due("asked count", x.asked(0, 0), 1);
        due("asked total", x.asked(0, 1), 252);
        due("asked ahead of held", x.asked(0, 2), 0);
        due("asked 3", x.asked(0, 3), NONE);
        due("asked -1", x.asked(0, -1), NONE);
        due("asked place -1", x.asked(-1, 0), NONE);
        due("asked place 1", x.asked(1, 0), NONE);
        due("asked place far", x.asked(Integer.MAX_VALUE, 2), NONE);
        due("held", x.held(1, 20), 1);
        due("different", x.asked(0, 2), 1);
        x.ask(0, 0, 1, 1);
        due("came later", x.asked(1, 2), 0);
        due("the first stays", x.asked(0, 2), 1);
        due("wrong held", x.held(1, 1), NONE);
        due("the first stays behind NONE", x.asked(0, 2), 1);
        due("the later one stays behind NONE", x.asked(1, 2), 0);
        x.turn(0, 1, 100);
        due("the count stays", x.asked(0, 0), 1);
        due("held anew", x.held(1, 1000), 0);
        due("not different by the latest", x.asked(0, 2), 0);
    }

    private static void promise21Held() {
        CloudBench x = benchOf(of(1, 2), of(3, 4), of(1), of(2), of(5, 1, 2), of(5, 6, 7));
        due("held p 0", x.held(0, 5), NONE);
        due("held p -1", x.held(-1, 5), NONE);
        due("held p is q", x.held(5, 5), NONE);
        due("held p above q", x.held(6, 5), NONE);
        due("held q 1001", x.held(1, 1001), NONE);
        due("held q below 0", x.held(-3, -1), NONE);
        due("held of none", x.held(999, 1000), 0);
        x.ask(0, 2, 3, 1);
        x.ask(0, 0, 1, 1);
        x.ask(0, 0, 1, 1);
        // 1/2 1/6 1/6: the bounds are p/q times 1/3 1/2 1
        due("held at 1/2", x.held(1, 2), 3);
        due("held at 49/100", x.held(49, 100), 0);
        x.anew();
        // 1/2 and 1/6: 1/6 at 1/2 of p/q, then 1/2 at p/q
        x.ask(0, 2, 3, 1);
        x.ask(0, 0, 1, 1);
        due("held at 1/3", x.held(1, 3), 1);
        due("the second is", x.asked(1, 2), 1);
        due("the first isn't", x.asked(0, 2), 0);
        due("held below 1/3", x.held(333, 1000), 0);
        due("the second isn't", x.asked(1, 2), 0);
        due("held at 1/2, both", x.held(1, 2), 2);
        due("held at 499/1000", x.held(499, 1000), 1);
        x.anew();
        // alike ones: of two of 1/2 the first asked is called at 1/2 of p/q, which needs 1; then none is
        x.ask(0, 2, 3, 1);
        x.ask(0, 2, 3, 1);
        due("held of alike ones", x.held(999, 1000), 0);
        x.anew();
        // 1/6 as 1 of 6 and as 2 of 12 can't be told apart; 1/6, 1/6, 1/2, 1 in any order
        x.ask(0, 0, 1, 0);
        x.ask(0, 0, 1, 1);
        x.ask(0, 2, 3, 1);
        x.ask(1, 0, 1, 1);
        due("held of four at 2/3", x.held(2, 3), 2);
        due("four: 0", x.asked(0, 2), 0);
        due("four: 1", x.asked(1, 2), 1);
        due("four: 2", x.asked(2, 2), 0);
        due("four: 3", x.asked(3, 2), 1);
        heldOfGreatTotals();
    }

    /** Chances whose cross products are beyond a long. */
    private static void heldOfGreatTotals() {
        CloudBench x = benchOf(rise(20, 0, 1), rise(20, 40, -1));
        // all of 20! are not less: 1; those not greater: 1 / 20!
        due("ask 1", x.ask(5, 0, 1, 0), 0);
        due("ask 1 / 20!", x.ask(5, 0, 1, 1), 1);
        due("ask 2 / 20!", x.ask(5, 0, 1, 2), 2);
        due("counts", x.asked(0, 0), 2432902008176640000L);
        due("counts", x.asked(1, 0), 1);
        due("counts", x.asked(2, 0), 2);
        due("held of great ones", x.held(1, 1000), 2);
        due("great: 0", x.asked(0, 2), 0);
        due("great: 1", x.asked(1, 2), 1);
        due("great: 2", x.asked(2, 2), 1);
        due("held of great ones at most", x.held(999, 1000), 2);
    }

    private static void promise22Anew() {
        CloudBench x = benchOf(of(1, 2, 3, 4, 5), of(11, 12, 13, 14, 15));
        for (int i = 0; i < 20; i++) {
            x.ask(0, 0, 1, 1);
        }
        due("held of 20", x.held(1, 2), 20);
        x.spread(1, 0, 1);
        x.span(0, 1, 1, 2);
        x.cell(0, 0, 5);
        x.cell(1, 0, 2);
        x.anew();
        due("empty", x.asked(0, 0), NONE);
        due("held of none", x.held(1, 2), 0);
        due("ask anew", x.ask(0, 0, 1, 0), 0);
        due("the new one came later", x.asked(0, 2), 0);
        due("the new one is alone", x.asked(1, 0), NONE);
        due("samples stay", x.number(0, 4), 5);
        due("rows stay", x.row(0, 0), 30);
        due("span stays", x.ends(3), -20);
        due("table stays", x.margins(0), 21);
    }
}
