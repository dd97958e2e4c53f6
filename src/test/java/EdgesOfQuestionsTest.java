/** The edges that terms 1 and 2 and promises 6 to 12 name, a sentence a method. */
public final class EdgesOfQuestionsTest {
    private static final int NONE = Run.NONE;
    private static final int LEAST = Run.LEAST;
    private static final int GREATEST = Run.GREATEST;
    private static final long HALF_OF_40 = 137846528820L;
    private static final long ORDERS_OF_20 = 2432902008176640000L;

    private static final String[] QUESTIONS = {"score", "total", "count", "spread"};
    /** What the samples 0 and 1, 0 and 7, 7 and 0 of a furnished run answer to each of QUESTIONS, test by test. */
    private static final int[][] OF_0_AND_1 = {
        {15, 25, 6, 6, 8, 3}, {20, 20, 20, 4, 4, 6}, {5, 5, 12, 1, 1, 1}, {11, 13, 3, 4, 4, 4}};
    private static final int[][] OF_0_AND_7 = {
        {15, 24, 6, 8, 15, -1}, {20, 20, 20, 8, 8, 6}, {7, 7, 12, 3, 3, 5}, {20, 10, 3, 7, 8, 4}};
    private static final int[][] OF_7_AND_0 = {
        {0, 18, 6, 4, -15, -1}, {20, 20, 20, 8, 8, 6}, {14, 16, 12, 6, 6, 5}, {20, 10, 3, 7, 8, 4}};

    public static void main(String[] args) {
        rankNoSuchSamples();
        rankAnEmptySample();
        rankNoSuchPlace();
        rankOfBothFull();
        rankOfAlikeNumbers();
        noughtsNoSuchSamples();
        noughtsAnEmptySample();
        noughtsUnlikeSizes();
        noughtsNoneAndAll();
        questionNoSuchTest();
        questionNoSuchSamples();
        questionUnlikeSamples();
        questionNeitherEmpty();
        questionPairedSizes();
        questionOrderNumberTwice();
        questionOrderTwiceAtEachPlace();
        questionOrderNumberInBoth();
        countNoSuchSide();
        scoresAtTheirEnds();
        scoresOfAlikeNumbers();
        mostAtItsEnds();
        mostOfNumbersInBoth();
        totalsAtTheirEnds();
        noDifferencesAtAll();
        oneDifference();
        orderOfOne();
        countsTakeWhatIsThere();
        countsTakeAllOfAlike();
        countsByFarOfSums();
        countsByFarOfRanks();
        countsByFarOfMost();
        countsByFarOfSigns();
        countsByFarOfTurns();
        countsByFarOfOrder();
        spreadOfOneScore();
        spreadReplacesTheEarlier();
        spreadThatIsRefusedLeavesTheEarlier();
        rowNoSuchPlace();
        rowNoSuchWhat();
        rowsUpTo2000();
        rowsOfTheLatestSpreadStay();
        askingChangesNothing();
        Run.end("the edges of the questions");
    }

    // Promise 6: NONE: no such SAMPLES, k, or an empty one

    private static void rankNoSuchSamples() {
        Run run = Run.furnished("Promise 6: no such SAMPLES");
        for (int none : new int[] {-1, 8, LEAST, GREATEST}) {
            run.still("rank " + none + " 1 0", NONE);
            run.still("rank 1 " + none + " 0", NONE);
            run.still("rank " + none + " " + none + " 0", NONE);
        }
        run.still("rank 0 0 0", NONE);
        run.still("rank 7 7 0", NONE);
        run.still("rank 0 7 0", 8);
        run.still("rank 7 0 0", 2);
    }

    private static void rankAnEmptySample() {
        Run run = Run.furnished("Promise 6: or an empty one");
        run.still("rank 0 5 0", NONE);
        run.still("rank 5 0 0", NONE);
        run.still("rank 5 6 0", NONE);
        run.due("put 5 4", 1);
        run.still("rank 0 5 0", 6);
        run.still("rank 5 0 0", 4);
        run.due("drop 5", 1);
        run.still("rank 0 5 0", NONE);
        run.still("rank 5 0 0", NONE);
    }

    private static void rankNoSuchPlace() {
        Run run = Run.furnished("Promise 6: no such k");
        // 5 1 9, then 2 1 4
        int[] want = {10, 3, 12, 6, 3, 8};
        run.still("rank 0 1 -1", NONE);
        for (int k = 0; k < 6; k++) {
            run.due("rank 0 1 " + k, want[k]);
        }
        run.still("rank 0 1 6", NONE);
        run.still("rank 0 1 " + LEAST, NONE);
        run.still("rank 0 1 " + GREATEST, NONE);
        run.due("put 5 8", 1);
        run.still("rank 2 5 -1", NONE);
        run.still("rank 2 5 0", 2);
        run.still("rank 2 5 1", 4);
        run.still("rank 2 5 2", NONE);
    }

    private static void rankOfBothFull() {
        Run run = new Run("Promise 6: k of 40");
        run.puts(0, Run.rising(20, 500, -1));
        run.puts(7, Run.rising(20, -481, -1));
        run.still("rank 0 7 0", 80);
        run.still("rank 0 7 19", 42);
        run.still("rank 0 7 20", 40);
        run.still("rank 0 7 39", 2);
        run.still("rank 0 7 40", NONE);
        run.still("rank 7 0 20", 80);
    }

    private static void rankOfAlikeNumbers() {
        Run run = new Run("Term 1: how many are alike (itself too)");
        run.puts(0, Run.alike(20, 500));
        run.puts(1, Run.alike(20, 500));
        run.puts(2, 500);
        run.puts(3, -500);
        run.due("rank 0 1 0", 41);
        run.due("rank 0 1 39", 41);
        run.due("rank 0 2 20", 22);
        run.due("rank 2 3 0", 4);
        run.due("rank 2 3 1", 2);
        run.due("rank 0 3 0", 23);
        run.due("rank 0 3 20", 2);
    }

    // Promise 7: NONE: no such SAMPLES, an empty one, or unlike sizes

    private static void noughtsNoSuchSamples() {
        Run run = Run.furnished("Promise 7: no such SAMPLES");
        for (int none : new int[] {-1, 8, LEAST, GREATEST}) {
            run.still("noughts " + none + " 1", NONE);
            run.still("noughts 1 " + none, NONE);
            run.still("noughts " + none + " " + none, NONE);
        }
        run.still("noughts 0 0", NONE);
        run.still("noughts 7 7", NONE);
        run.still("noughts 0 7", 0);
        run.still("noughts 7 0", 0);
    }

    private static void noughtsAnEmptySample() {
        Run run = Run.furnished("Promise 7: an empty one");
        run.still("noughts 2 5", NONE);
        run.still("noughts 5 2", NONE);
        run.still("noughts 5 6", NONE);
        run.due("put 5 7", 1);
        run.still("noughts 2 5", 1);
        run.still("noughts 5 2", 1);
        run.due("drop 5", 1);
        run.still("noughts 2 5", NONE);
    }

    private static void noughtsUnlikeSizes() {
        Run run = Run.furnished("Promise 7: or unlike sizes");
        run.still("noughts 0 1", 1);
        run.still("noughts 0 4", NONE);
        run.still("noughts 4 0", NONE);
        run.due("put 0 6", 4);
        run.still("noughts 0 1", NONE);
        run.still("noughts 1 0", NONE);
        run.still("noughts 0 4", 1);
        run.still("noughts 4 0", 1);
    }

    private static void noughtsNoneAndAll() {
        Run run = new Run("Promise 7: how many DIFFERENCES are left out");
        run.puts(0, Run.rising(20, 0, 1));
        run.puts(1, Run.rising(20, 0, 1));
        run.puts(2, Run.rising(20, 1, 1));
        run.due("noughts 0 1", 20);
        run.due("noughts 0 2", 0);
    }

    // Promises 8 to 11: NoSuchElementException: the question can't be asked (no such TEST, 0 .. 5, too)

    private static String question(String name, int test, int a, int b) {
        return name + " " + test + " " + a + " " + b + (name.equals("count") ? " 0" : "");
    }

    /** A question that can be asked, by each of the calls. */
    private static void taken(Run run, int test, int a, int b, int[][] wants) {
        for (int i = 0; i < QUESTIONS.length; i++) {
            run.due(question(QUESTIONS[i], test, a, b), wants[i][test]);
        }
    }

    /** A question that can't be asked, by each of the calls. */
    private static void refused(Run run, int test, int a, int b) {
        for (String name : QUESTIONS) {
            run.still(question(name, test, a, b), Run.NOT_ASKED);
        }
    }

    private static void questionNoSuchTest() {
        Run run = Run.furnished("Promises 8 to 11: no such TEST");
        for (int none : new int[] {-1, 6, LEAST, GREATEST}) {
            refused(run, none, 0, 1);
        }
        for (int test = 0; test <= 5; test++) {
            taken(run, test, 0, 1, OF_0_AND_1);
        }
    }

    private static void questionNoSuchSamples() {
        for (int test = 0; test <= 5; test++) {
            Run run = Run.furnished("Promises 8 to 11: SAMPLES 0 .. 7, TEST " + test);
            for (int none : new int[] {-1, 8, LEAST, GREATEST}) {
                refused(run, test, none, 1);
                refused(run, test, 1, none);
            }
            taken(run, test, 0, 7, OF_0_AND_7);
            taken(run, test, 7, 0, OF_7_AND_0);
        }
    }

    private static void questionUnlikeSamples() {
        for (int test = 0; test <= 5; test++) {
            Run run = Run.furnished("Term 1: two unlike SAMPLES, TEST " + test);
            for (int sample : new int[] {0, 2, 3, 7}) {
                refused(run, test, sample, sample);
            }
            // unlike are the samples, not their numbers
            run.puts(6, 5, 1, 9);
            run.due("score " + test + " 0 6", test == 0 ? 15 : test == 1 ? 21 : test == 5 ? 3 : 0);
        }
    }

    private static void questionNeitherEmpty() {
        for (int test = 0; test <= 5; test++) {
            Run run = Run.furnished("Term 1: neither empty, TEST " + test);
            refused(run, test, 2, 5);
            refused(run, test, 5, 2);
            refused(run, test, 5, 6);
            run.due("put 5 7", 1);
            run.due("total " + test + " 2 5", test <= 2 ? 2 : 1);
            run.due("total " + test + " 5 2", test <= 2 ? 2 : 1);
            run.due("drop 2", 1);
            refused(run, test, 2, 5);
            refused(run, test, 5, 2);
        }
    }

    private static void questionPairedSizes() {
        for (int test = 0; test <= 5; test++) {
            Run run = Run.furnished("Term 1: PAIRED: na is nb (else the question can't be asked), TEST " + test);
            run.puts(5, 30, 10, 20, 40);
            if (test >= 3) {
                refused(run, test, 0, 5);
                refused(run, test, 5, 0);
                refused(run, test, 2, 3);
                refused(run, test, 3, 2);
                run.due("put 0 8", 4);
                run.due("total " + test + " 0 5", test == 5 ? 24 : 16);
                run.due("total " + test + " 5 0", test == 5 ? 24 : 16);
            } else {
                run.due("total " + test + " 0 5", 35);
                run.due("total " + test + " 5 0", 35);
                run.due("total " + test + " 2 3", 21);
                run.due("total " + test + " 3 2", 21);
            }
        }
    }

    private static void questionOrderNumberTwice() {
        Run run = Run.furnished("Term 2: neither a nor b has a number twice (else it can't be asked)");
        run.puts(5, 30, 10, 20, 40);
        run.puts(6, 3, 8, 2, 8);
        refused(run, 5, 4, 5);
        refused(run, 5, 5, 4);
        refused(run, 5, 4, 6);
        // to the other tests it doesn't matter
        for (int test = 0; test <= 4; test++) {
            run.due("total " + test + " 4 5", test <= 2 ? 70 : 16);
            run.due("total " + test + " 5 4", test <= 2 ? 70 : 16);
        }
        run.due("drop 4", 4);
        run.puts(4, 3, 8, -3, 6);
        run.due("total 5 4 5", 24);
        run.due("total 5 5 4", 24);
    }

    private static void questionOrderTwiceAtEachPlace() {
        int[][] places = {{0, 1}, {0, 19}, {18, 19}, {9, 10}};
        for (int[] twice : places) {
            Run run = new Run("Term 2: a number twice, places " + twice[0] + " and " + twice[1]);
            int[] numbers = Run.rising(20, 1, 1);
            numbers[twice[1]] = numbers[twice[0]];
            run.puts(0, numbers);
            run.puts(1, Run.rising(20, 1, 1));
            run.puts(2, Run.rising(20, 5, -1));
            refused(run, 5, 0, 1);
            refused(run, 5, 1, 0);
            run.due("score 5 1 2", -190);
        }
    }

    private static void questionOrderNumberInBoth() {
        Run run = new Run("Term 2: a number of a and of b is not twice in one");
        run.puts(0, 1, 2);
        run.puts(1, 2, 1);
        run.due("score 5 0 1", -1);
        run.due("total 5 0 1", 2);
        run.due("count 5 0 1 1", 1);
        run.due("spread 5 0 1", 2);
    }

    // Promise 10: exception likewise (no such SIDE, too)

    private static void countNoSuchSide() {
        int[][] counts = {{5, 18, 10}, {5, 17, 10}, {12, 18, 12}, {1, 4, 2}, {1, 4, 2}, {1, 6, 2}};
        for (int test = 0; test <= 5; test++) {
            Run run = Run.furnished("Promise 10: no such SIDE, TEST " + test);
            for (int none : new int[] {-1, 3, LEAST, GREATEST}) {
                run.still("count " + test + " 0 1 " + none, Run.NOT_ASKED);
            }
            for (int side = 0; side <= 2; side++) {
                run.still("count " + test + " 0 1 " + side, counts[test][side]);
                run.still("count " + test + " 0 5 " + side, Run.NOT_ASKED);
            }
        }
        Run run = Run.furnished("Promise 10: no such TEST and SIDE");
        run.still("count 6 0 1 3", Run.NOT_ASKED);
    }

    // Promise 8: the SCORE that is there, at the ends of what there can be

    private static void scoresAtTheirEnds() {
        Run run = new Run("Promise 8: SCORES at their ends");
        run.puts(0, Run.alike(20, 500));
        run.puts(1, Run.alike(20, -500));
        run.puts(2, Run.rising(20, 0, 1));
        run.puts(3, Run.rising(20, 100, -1));
        run.due("score 0 0 1", 10000);
        run.due("score 0 1 0", -10000);
        // 20 doubled ranks of 21 below, of 61 above
        run.due("score 1 0 1", 1220);
        run.due("score 1 1 0", 420);
        run.due("score 3 0 1", 420);
        run.due("score 3 1 0", 0);
        run.due("score 4 0 1", 20000);
        run.due("score 4 1 0", -20000);
        run.due("score 5 2 3", -190);
        run.due("turn 3 -1 0", true);
        run.due("score 5 2 3", 190);
    }

    private static void scoresOfAlikeNumbers() {
        Run run = new Run("Promise 8: SCORES of alike numbers");
        run.puts(0, 7, 7, 7);
        run.puts(1, 7, 7, 7);
        int[] want = {21, 21, 0, 0, 0};
        for (int test = 0; test <= 4; test++) {
            run.due("score " + test + " 0 1", want[test]);
        }
    }

    private static void mostAtItsEnds() {
        Run run = new Run("Term 2: MOST, the greatest over all numbers x");
        run.puts(0, Run.rising(20, -500, 1));
        run.puts(1, Run.rising(20, 481, 1));
        run.puts(2, -500);
        run.puts(3, 500);
        run.puts(4, -500, 500);
        run.due("score 2 0 1", 400);
        run.due("score 2 1 0", 400);
        // up to -500 the least alone
        run.due("score 2 2 3", 1);
        run.due("score 2 3 2", 1);
        run.due("score 2 2 4", 1);
        run.due("score 2 4 3", 1);
        run.due("score 2 2 1", 20);
        // one of 20 in a, the one of b at the same number
        run.due("score 2 0 2", 19);
    }

    private static void mostOfNumbersInBoth() {
        Run run = new Run("Term 2: MOST, how many are x at most, alike ones all at once");
        run.puts(0, 1, 2);
        run.puts(1, 1, 2);
        // both 1 or both 2 chosen: 4; one of each: 0
        run.due("score 2 0 1", 0);
        run.due("count 2 0 1 0", 6);
        run.due("count 2 0 1 1", 4);
        run.due("count 2 0 1 2", 6);
        run.due("spread 2 0 1", 2);
        run.due("row 0 0", 0);
        run.due("row 0 1", 4);
        run.due("row 1 0", 4);
        run.due("row 1 1", 2);
    }

    // Promise 9: TOTAL, at its ends

    private static void totalsAtTheirEnds() {
        Run run = new Run("Promise 9: TOTAL at its ends");
        run.puts(0, Run.rising(20, 0, 1));
        run.puts(1, Run.rising(20, 100, -1));
        run.puts(2, 3);
        run.puts(3, 4);
        run.puts(4, Run.rising(19, 0, 1));
        for (int test = 0; test <= 2; test++) {
            run.due("total " + test + " 2 3", 2);
            run.due("total " + test + " 2 0", 21);
            run.due("total " + test + " 0 2", 21);
            run.due("total " + test + " 0 4", 68923264410L);
            run.due("total " + test + " 4 0", 68923264410L);
            run.due("total " + test + " 0 1", HALF_OF_40);
        }
        run.due("total 3 2 3", 2);
        run.due("total 4 2 3", 2);
        run.due("total 5 2 3", 1);
        run.due("total 3 0 1", 1048576);
        run.due("total 4 0 1", 1048576);
        run.due("total 5 0 1", ORDERS_OF_20);
    }

    // Term 1: DIFFERENCES, those of 0 left out: m of them (perhaps none)

    private static void noDifferencesAtAll() {
        for (int size = 1; size <= 20; size += 19) {
            Run run = new Run("Term 1: m of them (perhaps none), of " + size);
            run.puts(0, Run.rising(size, 3, 1));
            run.puts(1, Run.rising(size, 3, 1));
            for (int test = 3; test <= 4; test++) {
                run.due("score " + test + " 0 1", 0);
                run.due("total " + test + " 0 1", 1);
                for (int side = 0; side <= 2; side++) {
                    run.due("count " + test + " 0 1 " + side, 1);
                }
                run.due("spread " + test + " 0 1", 1);
                run.due("row 0 0", 0);
                run.due("row 0 1", 1);
                run.due("row 1 0", NONE);
            }
        }
    }

    private static void oneDifference() {
        Run run = new Run("Term 1: those of 0 left out, all but one");
        run.puts(0, 5, 6, 500);
        run.puts(1, 5, 6, -500);
        run.due("score 3 0 1", 2);
        run.due("score 3 1 0", 0);
        run.due("score 4 0 1", 1000);
        run.due("score 4 1 0", -1000);
        for (int test = 3; test <= 4; test++) {
            run.due("total " + test + " 0 1", 2);
            run.due("count " + test + " 0 1 0", 1);
            run.due("count " + test + " 0 1 1", 2);
            run.due("count " + test + " 0 1 2", 2);
            run.due("spread " + test + " 0 1", 2);
        }
        run.due("row 0 0", -1000);
        run.due("row 1 0", 1000);
    }

    private static void orderOfOne() {
        Run run = new Run("Term 2: ORDER of one number, which has no pair");
        run.puts(0, 5);
        run.puts(1, 5);
        run.due("score 5 0 1", 0);
        run.due("total 5 0 1", 1);
        for (int side = 0; side <= 2; side++) {
            run.due("count 5 0 1 " + side, 1);
        }
        run.due("spread 5 0 1", 1);
        run.due("row 0 0", 0);
        run.due("row 0 1", 1);
        run.due("row 1 1", NONE);
    }

    // Promise 10: how many sharings have a SCORE that is not less than what is there, not greater, a FAR not less

    private static void countsTakeWhatIsThere() {
        Run run = new Run("Promise 10: what is there counts on both sides");
        run.puts(0, Run.rising(20, -500, 1));
        run.puts(1, Run.rising(20, 481, 1));
        run.puts(2, Run.rising(20, 500, -1));
        for (int test = 0; test <= 1; test++) {
            run.due("count " + test + " 0 1 0", HALF_OF_40);
            run.due("count " + test + " 0 1 1", 1);
            run.due("count " + test + " 1 0 0", 1);
            run.due("count " + test + " 1 0 1", HALF_OF_40);
            run.due("count " + test + " 0 1 2", 2);
        }
        run.due("count 2 0 1 0", 2);
        run.due("count 2 0 1 1", HALF_OF_40);
        run.due("count 2 0 1 2", 2);
        for (int test = 3; test <= 4; test++) {
            run.due("count " + test + " 0 1 0", 1048576);
            run.due("count " + test + " 0 1 1", 1);
            run.due("count " + test + " 1 0 0", 1);
            run.due("count " + test + " 0 1 2", 2);
        }
        run.due("count 5 0 1 0", 1);
        run.due("count 5 0 1 1", ORDERS_OF_20);
        run.due("count 5 0 2 0", ORDERS_OF_20);
        run.due("count 5 0 2 1", 1);
        run.due("count 5 0 2 2", 2);
    }

    private static void countsTakeAllOfAlike() {
        Run run = new Run("Promise 10: alike numbers leave one SCORE");
        run.puts(0, Run.alike(20, -500));
        run.puts(1, Run.alike(20, -500));
        for (int test = 0; test <= 2; test++) {
            for (int side = 0; side <= 2; side++) {
                run.due("count " + test + " 0 1 " + side, HALF_OF_40);
            }
        }
    }

    /** The count by FAR of a's and b's numbers. */
    private static void far(int test, int[] a, int[] b, int want) {
        Run run = new Run("Promise 10: a FAR that is not less, TEST " + test);
        run.puts(0, a);
        run.puts(1, b);
        run.due("count " + test + " 0 1 2", want);
    }

    private static int[] of(int... numbers) {
        return numbers;
    }

    private static void countsByFarOfSums() {
        // 3 times 0 1 3 less 4: 4 1 5
        far(0, of(0), of(1, 3), 2);
        far(0, of(1), of(0, 3), 3);
        far(0, of(3), of(0, 1), 1);
        // two of them, 3 times 1 3 4 less 8: 5 1 4
        far(0, of(0, 1), of(3), 1);
        far(0, of(0, 3), of(1), 3);
        far(0, of(1, 3), of(0), 2);
    }

    private static void countsByFarOfRanks() {
        // 2 4 6 less 4
        far(1, of(5), of(6, 7), 2);
        far(1, of(6), of(5, 7), 3);
        far(1, of(7), of(5, 6), 2);
        // 3 3 6 less 4: 1 1 2
        far(1, of(1), of(1, 2), 3);
        far(1, of(2), of(1, 1), 1);
        // 2 5 5 less 4: 2 1 1
        far(1, of(1), of(2, 2), 1);
        far(1, of(2), of(1, 2), 3);
    }

    private static void countsByFarOfMost() {
        // 1 2 3, one chosen: 2 1 2
        far(2, of(1), of(2, 3), 2);
        far(2, of(2), of(1, 3), 3);
        far(2, of(3), of(1, 2), 2);
    }

    private static void countsByFarOfSigns() {
        // ranks 2 and 4: twice 0 2 4 6 less 6: 6 2 2 6
        far(3, of(1, 2), of(0, 0), 2);
        far(3, of(0, 2), of(1, 0), 4);
        far(3, of(1, 0), of(0, 2), 4);
        far(3, of(0, 0), of(1, 2), 2);
        // ranks 3 and 3: twice 0 3 3 6 less 6: 6 0 0 6
        far(3, of(1, 0), of(0, 1), 4);
        far(3, of(1, 1), of(0, 0), 2);
    }

    private static void countsByFarOfTurns() {
        // -4 -2 2 4
        far(4, of(3, 1), of(0, 0), 2);
        far(4, of(3, 0), of(0, 1), 4);
        far(4, of(0, 1), of(3, 0), 4);
        far(4, of(0, 0), of(3, 1), 2);
        // -2 0 0 2
        far(4, of(1, 0), of(0, 1), 4);
        far(4, of(1, 1), of(0, 0), 2);
    }

    private static void countsByFarOfOrder() {
        // -3 once, -1 twice, 1 twice, 3 once
        far(5, of(1, 2, 3), of(1, 2, 3), 2);
        far(5, of(1, 2, 3), of(1, 3, 2), 6);
        far(5, of(1, 2, 3), of(3, 1, 2), 6);
        far(5, of(1, 2, 3), of(3, 2, 1), 2);
    }

    // Promise 11: all SCORES that sharings have, in rising order: how many

    private static void spreadOfOneScore() {
        Run run = new Run("Promise 11: one SCORE alone");
        run.puts(0, Run.alike(20, 500));
        run.puts(1, Run.alike(20, 500));
        int[] scores = {10000, 820, 0, 0, 0};
        for (int test = 0; test <= 4; test++) {
            run.due("spread " + test + " 0 1", 1);
            run.due("row 0 0", scores[test]);
            run.due("row 0 1", test <= 2 ? HALF_OF_40 : 1);
            run.due("row 1 0", NONE);
        }
    }

    private static void spreadReplacesTheEarlier() {
        Run run = Run.furnished("Promise 12: the latest spread()");
        run.due("row 12 0", 30);
        run.changesOnly("row", "spread 2 0 1", 3);
        run.due("row 2 0", 9);
        run.due("row 2 1", 2);
        run.still("row 3 0", NONE);
        run.still("row 3 1", NONE);
        run.still("row 12 0", NONE);
        run.due("spread 1 0 1", 13);
        run.due("row 12 0", 30);
        run.still("row 13 0", NONE);
    }

    private static void spreadThatIsRefusedLeavesTheEarlier() {
        Run run = Run.furnished("Promise 11: exception likewise");
        run.still("spread 0 0 5", Run.NOT_ASKED);
        run.still("spread 5 4 3", Run.NOT_ASKED);
        run.still("spread 6 0 1", Run.NOT_ASKED);
        run.due("row 0 0", 12);
        run.due("row 12 0", 30);
    }

    // Promise 12: of the k-th of the latest spread() (the first 2000). NONE if there is none such

    private static void rowNoSuchPlace() {
        Run run = Run.furnished("Promise 12: no such k");
        for (int what = 0; what <= 1; what++) {
            run.still("row -1 " + what, NONE);
            run.still("row 0 " + what, what == 0 ? 12 : 1);
            run.still("row 12 " + what, what == 0 ? 30 : 1);
            run.still("row 13 " + what, NONE);
            run.still("row 2000 " + what, NONE);
            run.still("row " + LEAST + " " + what, NONE);
            run.still("row " + GREATEST + " " + what, NONE);
        }
    }

    private static void rowNoSuchWhat() {
        Run run = Run.furnished("Promise 12: no such what");
        run.still("row 3 -1", NONE);
        run.still("row 3 0", 17);
        run.still("row 3 1", 2);
        run.still("row 3 2", NONE);
        run.still("row 3 " + LEAST, NONE);
        run.still("row 3 " + GREATEST, NONE);
    }

    /** The differences 1 2 4 .. 512 and one more reach every sum, so that there is a score more than their sum. */
    private static void rowsUpTo2000() {
        for (int scores = 1999; scores <= 2001; scores++) {
            Run run = new Run("Promise 12: the first 2000, of " + scores);
            int most = scores - 1;
            for (int i = 0; i <= 10; i++) {
                int difference = i < 10 ? 1 << i : most - 1023;
                run.puts(0, difference - difference / 2);
                run.puts(1, -(difference / 2));
            }
            run.due("score 4 0 1", most);
            run.due("spread 4 0 1", scores);
            run.due("row 0 0", -most);
            run.due("row 1998 0", 2 * 1998 - most);
            run.due("row 1998 1", 1);
            run.due("row 1999 0", scores == 1999 ? NONE : 2 * 1999 - most);
            run.due("row 1999 1", scores == 1999 ? NONE : 1);
            for (int k = 2000; k <= 2001; k++) {
                run.due("row " + k + " 0", NONE);
                run.due("row " + k + " 1", NONE);
            }
            // what is there is the last of all
            run.due("count 4 0 1 0", 1);
            run.due("count 4 0 1 1", 2048);
        }
    }

    private static void rowsOfTheLatestSpreadStay() {
        Run run = Run.furnished("Promise 12: the latest spread(), whatever becomes of its SAMPLES");
        run.due("drop 0", 3);
        run.due("turn 1 10 0", true);
        run.due("count 0 3 7 0", 991);
        run.due("row 0 0", 12);
        run.due("row 12 0", 30);
        run.still("row 13 0", NONE);
    }

    private static void askingChangesNothing() {
        Run run = Run.furnished("Promises 6 to 10, 12: asking changes nothing");
        for (int test = 0; test <= 5; test++) {
            run.still("score " + test + " 0 1", OF_0_AND_1[0][test]);
            run.still("total " + test + " 0 1", OF_0_AND_1[1][test]);
            run.still("count " + test + " 0 1 0", OF_0_AND_1[2][test]);
            run.changesOnly("row", "spread " + test + " 0 1", OF_0_AND_1[3][test]);
        }
        run.still("rank 0 1 2", 12);
        run.still("noughts 0 1", 1);
    }
}
