/** The edges that term 3 and promises 13 to 15 name, a sentence a method. */
public final class EdgesOfSpansTest {
    private static final int NONE = Run.NONE;
    private static final int LEAST = Run.LEAST;
    private static final int GREATEST = Run.GREATEST;

    public static void main(String[] args) {
        spanNoSuchSamples();
        spanAnEmptySample();
        spanAbove0();
        spanBelow1();
        spanUpTo1000();
        stepIsAtMost();
        stepOfTheFewestPairs();
        stepOfOneAndTwenty();
        stepOfBothFull();
        spanFromStepToStep();
        spanWithoutEnds();
        middleOfOddAndEven();
        differencesAtTheirEnds();
        differencesThatAreAlike();
        endsAheadOfAny();
        endsNoSuchWhat();
        endsBehindNone();
        endsAsItWasThen();
        pairsNoSuchSamples();
        pairsAnEmptySample();
        pairsThatThereAreNot();
        pairsOfTheFewest();
        pairsOfBothFull();
        pairsOfAlikeNumbers();
        Run.end("the edges of the spans");
    }

    // Promise 13: NONE: no such SAMPLES, an empty one, or p, q

    private static void spanNoSuchSamples() {
        Run run = Run.furnished("Promise 13: no such SAMPLES");
        for (int none : new int[] {-1, 8, LEAST, GREATEST}) {
            run.still("span " + none + " 1 1 2", NONE);
            run.still("span 1 " + none + " 1 2", NONE);
            run.still("span " + none + " " + none + " 1 2", NONE);
        }
        run.still("span 0 0 1 2", NONE);
        run.still("span 7 7 1 2", NONE);
        run.changesOnly("ends", "span 0 7 1 2", 3);
        run.changesOnly("ends", "span 7 0 1 10", 1);
    }

    private static void spanAnEmptySample() {
        Run run = Run.furnished("Promise 13: an empty one");
        run.still("span 0 5 1 2", NONE);
        run.still("span 5 0 1 2", NONE);
        run.still("span 5 6 1 2", NONE);
        run.due("put 5 4", 1);
        run.due("span 0 5 1 2", 1);
        run.due("span 5 0 1 2", 1);
        run.due("drop 5", 1);
        run.still("span 0 5 1 2", NONE);
        run.still("span 5 0 1 2", NONE);
    }

    private static void spanAbove0() {
        Run run = Run.furnished("Term 3: 0 < p");
        run.still("span 0 1 0 5", NONE);
        run.still("span 0 1 0 1", NONE);
        run.still("span 0 1 -1 5", NONE);
        run.still("span 0 1 -2 -1", NONE);
        run.still("span 0 1 " + LEAST + " 5", NONE);
        run.still("span 0 1 " + LEAST + " " + LEAST, NONE);
        run.due("span 0 1 1 5", 2);
    }

    private static void spanBelow1() {
        Run run = Run.furnished("Term 3: p < q");
        run.still("span 0 1 5 5", NONE);
        run.still("span 0 1 6 5", NONE);
        run.still("span 0 1 1 1", NONE);
        run.still("span 0 1 1 0", NONE);
        run.still("span 0 1 1 -5", NONE);
        run.still("span 0 1 1000 1000", NONE);
        run.still("span 0 1 " + GREATEST + " 5", NONE);
        run.still("span 0 1 5 " + LEAST, NONE);
        run.due("span 0 1 4 5", 4);
        run.due("span 0 1 1 2", 3);
        run.due("span 0 1 999 1000", 4);
    }

    private static void spanUpTo1000() {
        Run run = Run.furnished("Term 3: q <= 1000");
        run.still("span 0 1 1 1001", NONE);
        run.still("span 0 1 1000 1001", NONE);
        run.still("span 0 1 500 1001", NONE);
        run.still("span 0 1 1 " + GREATEST, NONE);
        run.still("span 0 1 " + (GREATEST - 1) + " " + GREATEST, NONE);
        run.due("span 0 1 500 1000", 3);
        run.due("span 0 1 500 999", 3);
        run.due("span 0 1 1 1000", 0);
    }

    // Term 3: K is the greatest k for which 2 q (W(0) + .. + W(k - 1)) is p times TOTAL at most

    private static Run threeAndTwo(String sentence) {
        Run run = new Run(sentence);
        // differences -3 1 1 5 6 10; W is 1 1 2 2 2 1 1 of 10
        run.puts(0, 10, 1, 5);
        run.puts(1, 4, 0);
        return run;
    }

    private static void stepIsAtMost() {
        Run run = threeAndTwo("Term 3: is p times TOTAL at most");
        // 1, 2, 4 of 10, twice; behind each the nearest chance below it
        run.due("span 0 1 1 5", 1);
        run.due("span 0 1 199 996", 0);
        run.due("span 0 1 2 5", 2);
        run.due("span 0 1 399 998", 1);
        run.due("span 0 1 4 5", 3);
        run.due("span 0 1 799 999", 2);
        run.due("span 0 1 999 1000", 3);
        run.due("span 1 0 1 5", 1);
        run.due("span 1 0 199 996", 0);
        run.due("span 1 0 4 5", 3);
        run.due("span 1 0 799 999", 2);
    }

    private static void stepOfTheFewestPairs() {
        Run run = new Run("Term 3: K of one pair and of two");
        run.puts(0, 9);
        run.puts(1, 4);
        run.puts(2, 3, 5);
        run.due("span 0 1 999 1000", 0);
        run.due("span 0 1 1 1000", 0);
        run.due("span 0 2 2 3", 1);
        run.due("span 0 2 665 998", 0);
        run.due("span 0 2 999 1000", 1);
        run.due("span 2 0 2 3", 1);
        run.due("span 2 0 665 998", 0);
    }

    private static void stepOfOneAndTwenty() {
        Run run = new Run("Term 3: K of 1 and 20");
        run.puts(0, 0);
        run.puts(1, Run.rising(20, -20, 1));
        // each W is 1 of 21
        run.due("span 0 1 2 21", 1);
        run.due("ends 0", 1);
        run.due("ends 1", 20);
        run.due("span 0 1 95 998", 0);
        run.due("span 0 1 20 21", 10);
        run.due("ends 0", 10);
        run.due("ends 1", 11);
        run.due("span 0 1 939 986", 9);
        run.due("span 0 1 999 1000", 10);
    }

    private static void stepOfBothFull() {
        Run run = new Run("Term 3: K of 20 and 20");
        run.puts(0, Run.rising(20, 0, 20));
        run.puts(1, Run.rising(20, 0, -1));
        // the differences are 0 .. 399
        int[][] chances = {{1, 1000, 82}, {1, 100, 106}, {1, 20, 128}, {1, 2, 175}, {999, 1000, 200}};
        for (int[] chance : chances) {
            run.due("span 0 1 " + chance[0] + " " + chance[1], chance[2]);
            run.due("ends 0", chance[2] - 1);
            run.due("ends 1", 400 - chance[2]);
            run.due("ends 2", 1);
            run.due("ends 3", 399);
        }
    }

    // Term 3: the SPAN is from D K to D (na nb + 1 - K), both within; without ends if K is 0

    private static void ends(Run run, int lower, int upper, int has, int middle) {
        run.due("ends 0", lower);
        run.due("ends 1", upper);
        run.due("ends 2", has);
        run.due("ends 3", middle);
    }

    private static void spanFromStepToStep() {
        Run run = threeAndTwo("Term 3: from D K to D (na nb + 1 - K)");
        run.due("span 0 1 1 5", 1);
        ends(run, -3, 10, 1, 6);
        run.due("span 0 1 2 5", 2);
        ends(run, 1, 6, 1, 6);
        run.due("span 0 1 4 5", 3);
        ends(run, 1, 5, 1, 6);
        run.due("span 1 0 1 5", 1);
        ends(run, -10, 3, 1, -6);
    }

    private static void spanWithoutEnds() {
        Run run = threeAndTwo("Term 3: without ends if K is 0");
        run.due("span 0 1 1 5", 1);
        ends(run, -3, 10, 1, 6);
        run.due("span 0 1 199 996", 0);
        ends(run, 0, 0, 0, 6);
        // fewer differences than the earlier span had
        run.puts(2, 9);
        run.puts(3, 3);
        run.due("span 2 3 999 1000", 0);
        ends(run, 0, 0, 0, 12);
        run.due("span 2 1 1 2", 0);
        ends(run, 0, 0, 0, 14);
    }

    private static void middleOfOddAndEven() {
        Run run = new Run("Term 3: the sum of the two middle ones of D, or twice the middle one");
        run.puts(0, 9);
        run.puts(1, 4);
        run.puts(2, 2, 5);
        run.puts(3, 1, 8, 3);
        run.due("span 0 1 1 2", 0);
        ends(run, 0, 0, 0, 10);
        run.due("span 0 2 1 2", 0);
        ends(run, 0, 0, 0, 11);
        run.due("span 0 2 2 3", 1);
        ends(run, 4, 7, 1, 11);
        run.due("span 0 3 1 3", 0);
        ends(run, 0, 0, 0, 12);
        run.due("span 0 3 1 2", 1);
        ends(run, 1, 8, 1, 12);
    }

    private static void differencesAtTheirEnds() {
        Run run = new Run("Term 3: differences of -500 and 500");
        run.puts(0, Run.alike(20, 500));
        run.puts(1, Run.alike(20, -500));
        run.due("span 0 1 1 2", 175);
        ends(run, 1000, 1000, 1, 2000);
        run.due("span 1 0 1 2", 175);
        ends(run, -1000, -1000, 1, -2000);
    }

    private static void differencesThatAreAlike() {
        Run run = new Run("Term 3: differences in rising order, alike ones each for itself");
        run.puts(0, 3, 3, 4);
        run.puts(1, 3);
        // 0 0 1
        run.due("span 0 1 1 2", 1);
        ends(run, 0, 1, 1, 0);
        run.due("turn 0 -1 7", true);
        // 0 1 1
        run.due("span 0 1 1 2", 1);
        ends(run, 0, 1, 1, 2);
    }

    // Promise 14: of the latest span() that was not NONE, as it was then. NONE for another what, and ahead of any

    private static void endsAheadOfAny() {
        Run run = new Run("Promise 14: NONE ahead of any");
        run.puts(0, 1, 2, 4);
        for (int what = -1; what <= 4; what++) {
            run.still("ends " + what, NONE);
        }
        run.still("span 0 1 1 2", NONE);
        for (int what = 0; what <= 3; what++) {
            run.still("ends " + what, NONE);
        }
        run.puts(1, 8);
        run.still("span 0 1 1 1", NONE);
        run.still("ends 2", NONE);
        run.due("span 0 1 1 3", 0);
        ends(run, 0, 0, 0, -12);
    }

    private static void endsNoSuchWhat() {
        Run run = Run.furnished("Promise 14: NONE for another what");
        run.still("ends -1", NONE);
        run.still("ends 0", -3);
        run.still("ends 1", 8);
        run.still("ends 2", 1);
        run.still("ends 3", 6);
        run.still("ends 4", NONE);
        run.still("ends " + LEAST, NONE);
        run.still("ends " + GREATEST, NONE);
    }

    private static void endsBehindNone() {
        Run run = Run.furnished("Promise 14: the latest span() that was not NONE");
        run.due("span 0 1 1 1", NONE);
        ends(run, -3, 8, 1, 6);
        run.due("span 0 5 1 2", NONE);
        ends(run, -3, 8, 1, 6);
        run.due("span 0 0 1 2", NONE);
        ends(run, -3, 8, 1, 6);
        run.due("span 0 1 1 1000", 0);
        ends(run, 0, 0, 0, 6);
    }

    private static void endsAsItWasThen() {
        Run run = Run.furnished("Promise 14: as it was then");
        run.due("put 0 400", 4);
        ends(run, -3, 8, 1, 6);
        run.due("turn 1 -10 5", true);
        ends(run, -3, 8, 1, 6);
        run.due("drop 0", 4);
        run.due("drop 1", 3);
        ends(run, -3, 8, 1, 6);
        run.due("pairs 3 7 4", 4);
        run.due("spread 0 3 7", 126);
        ends(run, -3, 8, 1, 6);
    }

    // Promise 15: NONE: no such SAMPLES, an empty one; 0 for u that there is not

    private static void pairsNoSuchSamples() {
        Run run = Run.furnished("Promise 15: no such SAMPLES");
        for (int none : new int[] {-1, 8, LEAST, GREATEST}) {
            run.still("pairs " + none + " 1 0", NONE);
            run.still("pairs 1 " + none + " 0", NONE);
            run.still("pairs " + none + " " + none + " 0", NONE);
        }
        run.still("pairs 0 0 0", NONE);
        run.still("pairs 7 7 0", NONE);
        run.still("pairs 0 7 4", 3);
        run.still("pairs 7 0 4", 3);
    }

    private static void pairsAnEmptySample() {
        Run run = Run.furnished("Promise 15: an empty one");
        for (int u = -1; u <= 1; u++) {
            run.still("pairs 0 5 " + u, NONE);
            run.still("pairs 5 0 " + u, NONE);
            run.still("pairs 5 6 " + u, NONE);
        }
        run.due("put 5 4", 1);
        run.still("pairs 0 5 0", 1);
        run.still("pairs 5 0 0", 1);
        run.due("drop 5", 1);
        run.still("pairs 0 5 0", NONE);
    }

    private static void pairsThatThereAreNot() {
        Run run = Run.furnished("Promise 15: 0 for u that there is not");
        int[] ways = {1, 1, 2, 3, 3, 3, 3, 2, 1, 1};
        run.still("pairs 0 1 -1", 0);
        for (int u = 0; u <= 9; u++) {
            run.due("pairs 0 1 " + u, ways[u]);
        }
        run.still("pairs 0 1 10", 0);
        run.still("pairs 0 1 " + LEAST, 0);
        run.still("pairs 0 1 " + GREATEST, 0);
    }

    private static void pairsOfTheFewest() {
        Run run = Run.furnished("Promise 15: W of one pair, and of 1 and 20");
        run.due("put 5 0", 1);
        run.due("pairs 2 5 -1", 0);
        run.due("pairs 2 5 0", 1);
        run.due("pairs 2 5 1", 1);
        run.due("pairs 2 5 2", 0);
        for (int u = 0; u <= 20; u++) {
            run.due("pairs 2 3 " + u, 1);
            run.due("pairs 3 2 " + u, 1);
        }
        run.due("pairs 2 3 21", 0);
        run.due("pairs 3 2 21", 0);
    }

    private static void pairsOfBothFull() {
        Run run = new Run("Promise 15: W of 20 and 20");
        run.puts(0, Run.alike(20, 1));
        run.puts(7, Run.alike(20, 1));
        run.due("pairs 0 7 -1", 0);
        run.due("pairs 0 7 0", 1);
        run.due("pairs 0 7 1", 1);
        run.due("pairs 0 7 199", 1470080699);
        run.due("pairs 0 7 200", 1470597342);
        run.due("pairs 0 7 201", 1470080699);
        run.due("pairs 0 7 399", 1);
        run.due("pairs 0 7 400", 1);
        run.due("pairs 0 7 401", 0);
    }

    private static void pairsOfAlikeNumbers() {
        Run run = new Run("Term 3: of N unlike numbers, whatever the SAMPLES hold");
        run.puts(0, 5, 5, 5);
        run.puts(1, 5, 5);
        int[] ways = {1, 1, 2, 2, 2, 1, 1};
        for (int u = 0; u <= 6; u++) {
            run.due("pairs 0 1 " + u, ways[u]);
        }
        run.due("pairs 0 1 7", 0);
    }
}
