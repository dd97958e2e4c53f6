/** The edges that term 5 and promises 19 to 22 name, a sentence a method. */
public final class EdgesOfListTest {
    private static final int NONE = Run.NONE;
    private static final int LEAST = Run.LEAST;
    private static final int GREATEST = Run.GREATEST;

    public static void main(String[] args) {
        askNoSuchTest();
        askNoSuchSamples();
        askAnEmptySample();
        askUnlikeSizes();
        askNumberTwice();
        askNoSuchSide();
        askTo20();
        askKeepsWhatWasThere();
        askedNoSuchPlace();
        askedOfAFullList();
        askedNoSuchWhat();
        askedAheadOfAnyHeld();
        askedThatCameLater();
        askedByTheLatestHeld();
        heldAbove0();
        heldBelow1();
        heldUpTo1000();
        heldOfAnEmptyList();
        heldNotAbove();
        heldOfTwo();
        heldInRisingOrder();
        heldEndsAtTheFirst();
        heldOfAlikeOnes();
        heldOf20();
        heldOfTheLeastAndTheGreatest();
        anewEmptiesTheList();
        anewOfAFullList();
        anewLeavesAllElse();
        Run.end("the edges of the list");
    }

    // Promise 19: NONE: it can't be asked, or there are 20

    private static void askNoSuchTest() {
        Run run = Run.furnished("Promise 19: no such TEST");
        for (int none : new int[] {-1, 6, LEAST, GREATEST}) {
            run.still("ask " + none + " 0 1 0", NONE);
        }
        int[] counts = {5, 5, 12, 1, 1, 1};
        int[] totals = {20, 20, 20, 4, 4, 6};
        for (int test = 0; test <= 5; test++) {
            run.changesOnly("asked", "ask " + test + " 0 1 0", 4 + test);
            run.due("asked " + (4 + test) + " 0", counts[test]);
            run.due("asked " + (4 + test) + " 1", totals[test]);
        }
    }

    private static void askNoSuchSamples() {
        for (int test = 0; test <= 5; test++) {
            Run run = Run.furnished("Promise 19: no such SAMPLES, TEST " + test);
            for (int none : new int[] {-1, 8, LEAST, GREATEST}) {
                run.still("ask " + test + " " + none + " 1 0", NONE);
                run.still("ask " + test + " 1 " + none + " 0", NONE);
            }
            run.still("ask " + test + " 0 0 0", NONE);
            run.still("ask " + test + " 7 7 0", NONE);
            run.due("ask " + test + " 0 7 0", 4);
            run.due("ask " + test + " 7 0 0", 5);
        }
    }

    private static void askAnEmptySample() {
        for (int test = 0; test <= 5; test++) {
            Run run = Run.furnished("Promise 19: an empty SAMPLE, TEST " + test);
            run.still("ask " + test + " 2 5 0", NONE);
            run.still("ask " + test + " 5 2 0", NONE);
            run.still("ask " + test + " 5 6 0", NONE);
            run.due("put 5 8", 1);
            run.due("ask " + test + " 2 5 0", 4);
            run.due("ask " + test + " 5 2 0", 5);
            run.due("drop 2", 1);
            run.still("ask " + test + " 2 5 0", NONE);
            run.still("ask " + test + " 5 2 0", NONE);
        }
    }

    private static void askUnlikeSizes() {
        for (int test = 0; test <= 5; test++) {
            Run run = Run.furnished("Promise 19: PAIRED, TEST " + test);
            run.puts(5, 30, 10, 20, 40);
            if (test >= 3) {
                run.still("ask " + test + " 0 5 0", NONE);
                run.still("ask " + test + " 5 0 0", NONE);
                run.due("put 0 8", 4);
            }
            run.due("ask " + test + " 0 5 0", 4);
            run.due("ask " + test + " 5 0 0", 5);
        }
    }

    private static void askNumberTwice() {
        Run run = Run.furnished("Promise 19: ORDER, a number twice");
        run.puts(5, 30, 10, 20, 40);
        run.still("ask 5 4 5 0", NONE);
        run.still("ask 5 5 4 0", NONE);
        run.due("ask 4 4 5 0", 4);
        run.due("ask 4 5 4 0", 5);
        run.due("drop 4", 4);
        run.puts(4, 3, 8, -3, 6);
        run.due("ask 5 4 5 0", 6);
        run.due("ask 5 5 4 0", 7);
    }

    private static void askNoSuchSide() {
        int[][] counts = {{5, 18, 10}, {5, 17, 10}, {12, 18, 12}, {1, 4, 2}, {1, 4, 2}, {1, 6, 2}};
        for (int test = 0; test <= 5; test++) {
            Run run = Run.furnished("Promise 19: no such SIDE, TEST " + test);
            for (int none : new int[] {-1, 3, LEAST, GREATEST}) {
                run.still("ask " + test + " 0 1 " + none, NONE);
            }
            for (int side = 0; side <= 2; side++) {
                run.due("ask " + test + " 0 1 " + side, 4 + side);
                run.due("asked " + (4 + side) + " 0", counts[test][side]);
            }
        }
    }

    private static void askTo20() {
        Run run = Run.furnished("Promise 19: or there are 20");
        for (int i = 4; i < 20; i++) {
            run.due("ask 0 0 1 " + i % 3, i);
        }
        run.still("ask 0 0 1 0", NONE);
        run.still("ask 5 0 1 2", NONE);
        run.still("ask 6 0 1 0", NONE);
        run.still("ask 0 0 1 3", NONE);
        run.due("asked 19 0", 18);
        run.due("anew", "done");
        run.due("ask 5 0 1 2", 0);
    }

    private static void askKeepsWhatWasThere() {
        Run run = Run.furnished("Term 5: a LIST of chances, COUNT and TOTAL");
        run.due("ask 0 0 1 0", 4);
        run.due("turn 0 -1 0", true);
        run.due("drop 1", 3);
        run.due("asked 4 0", 5);
        run.due("asked 4 1", 20);
        run.due("asked 0 0", 4);
        run.due("asked 0 1", 21);
    }

    // Promise 20: NONE if there is none such; 0 ahead of any held(), or if it came later

    private static void askedNoSuchPlace() {
        Run run = Run.furnished("Promise 20: no such place");
        int[][] want = {{4, 21, 1}, {18, 20, 0}, {5, 20, 1}, {1, 4, 0}};
        for (int what = 0; what <= 2; what++) {
            run.still("asked -1 " + what, NONE);
            for (int i = 0; i < 4; i++) {
                run.due("asked " + i + " " + what, want[i][what]);
            }
            run.still("asked 4 " + what, NONE);
            run.still("asked 20 " + what, NONE);
            run.still("asked " + LEAST + " " + what, NONE);
            run.still("asked " + GREATEST + " " + what, NONE);
        }
    }

    private static void askedOfAFullList() {
        Run run = Run.furnished("Promise 20: place i of a full LIST");
        for (int i = 4; i < 20; i++) {
            run.call("ask 3 0 1 1");
        }
        for (int what = 0; what <= 1; what++) {
            run.still("asked 19 " + what, 4);
            run.still("asked 20 " + what, NONE);
        }
        run.still("asked 19 2", 0);
        run.still("asked 20 2", NONE);
        run.still("asked 21 2", NONE);
    }

    private static void askedNoSuchWhat() {
        Run run = Run.furnished("Promise 20: no such what");
        for (int what : new int[] {-1, 3, LEAST, GREATEST}) {
            run.still("asked 0 " + what, NONE);
            run.still("asked 3 " + what, NONE);
        }
        run.still("asked 0 0", 4);
        run.still("asked 0 1", 21);
        run.still("asked 0 2", 1);
    }

    private static void askedAheadOfAnyHeld() {
        Run run = new Run("Promise 20: 0 ahead of any held()");
        run.puts(0, 1);
        run.puts(1, 2);
        run.due("ask 0 0 1 1", 0);
        run.still("asked 0 2", 0);
        run.still("held 1 1", NONE);
        run.still("asked 0 2", 0);
        run.changesOnly("asked", "held 1 2", 1);
        run.still("asked 0 2", 1);
    }

    private static void askedThatCameLater() {
        Run run = new Run("Promise 20: 0 if it came later");
        run.puts(0, 1);
        run.puts(1, 2);
        run.due("ask 0 0 1 1", 0);
        run.due("held 1 2", 1);
        run.due("ask 0 0 1 1", 1);
        run.due("asked 0 2", 1);
        run.due("asked 1 2", 0);
        // two of 1/2: the first against half of p / q
        run.due("held 999 1000", 0);
        run.due("asked 0 2", 0);
        run.due("asked 1 2", 0);
    }

    private static void askedByTheLatestHeld() {
        Run run = new Run("Promise 20: by the latest held()");
        run.puts(0, 1);
        run.puts(1, 2);
        run.due("ask 0 0 1 1", 0);
        run.due("held 1 2", 1);
        for (String none : new String[] {"0 5", "5 5", "1 1001", "-1 2"}) {
            run.still("held " + none, NONE);
            run.due("asked 0 2", 1);
        }
        run.due("held 499 1000", 0);
        run.due("asked 0 2", 0);
        run.due("held 500 1000", 1);
        run.due("asked 0 2", 1);
    }

    // Promise 21: HELD at p / q (0 < p < q <= 1000): how many are called different; NONE for others

    private static void heldAbove0() {
        Run run = Run.furnished("Promise 21: 0 < p");
        run.still("held 0 5", NONE);
        run.still("held 0 1", NONE);
        run.still("held -1 5", NONE);
        run.still("held -2 -1", NONE);
        run.still("held " + LEAST + " 5", NONE);
        run.still("held " + LEAST + " " + LEAST, NONE);
        run.due("held 1 1000", 0);
        run.due("asked 0 2", 0);
    }

    private static void heldBelow1() {
        Run run = Run.furnished("Promise 21: p < q");
        run.still("held 5 5", NONE);
        run.still("held 6 5", NONE);
        run.still("held 1 1", NONE);
        run.still("held 1 0", NONE);
        run.still("held 1 -5", NONE);
        run.still("held 1000 1000", NONE);
        run.still("held " + GREATEST + " 5", NONE);
        run.still("held 5 " + LEAST, NONE);
        // 4/21, 1/4, 1/4, 9/10 against a fourth, a third, a half, the whole
        run.due("held 4 5", 3);
        run.due("held 1 2", 0);
        run.due("held 999 1000", 4);
    }

    private static void heldUpTo1000() {
        Run run = Run.furnished("Promise 21: q <= 1000");
        run.still("held 1 1001", NONE);
        run.still("held 1000 1001", NONE);
        run.still("held 1 " + GREATEST, NONE);
        run.still("held " + (GREATEST - 1) + " " + GREATEST, NONE);
        run.due("held 900 1000", 4);
        run.due("held 899 1000", 3);
    }

    private static void heldOfAnEmptyList() {
        Run run = new Run("Promise 21: how many of none");
        run.still("held 1 2", 0);
        run.still("held 999 1000", 0);
        run.still("held 1 1000", 0);
        run.still("held 1 1001", NONE);
    }

    // Term 5: called different, if COUNT / TOTAL is not above p / (q (n - i))

    private static void heldNotAbove() {
        Run run = new Run("Term 5: is not above p / q");
        run.puts(0, 1, 2);
        run.puts(1, 3);
        run.due("ask 0 0 1 1", 0);
        run.due("asked 0 1", 3);
        run.due("held 1 3", 1);
        run.due("held 333 999", 1);
        run.due("held 333 1000", 0);
        run.due("held 332 997", 0);
        run.due("held 334 1000", 1);
        run.due("held 1 4", 0);
    }

    private static void heldOfTwo() {
        Run run = new Run("Term 5: the i-th (from 0 on) of n");
        run.puts(0, 1, 2);
        run.puts(1, 3);
        run.puts(2, 1);
        // 1/3, then 1/2: the first against p / 2 q, the second against p / q
        run.due("ask 0 0 1 1", 0);
        run.due("ask 0 2 1 1", 1);
        run.due("held 2 3", 2);
        run.due("held 665 998", 0);
        run.due("held 666 999", 2);
        run.due("anew", "done");
        run.puts(3, 1, 2);
        run.puts(4, 3, 4);
        // 1/6, then 1/2
        run.due("ask 0 3 4 1", 0);
        run.due("ask 0 2 1 1", 1);
        run.due("held 1 3", 1);
        run.due("held 332 997", 0);
        run.due("held 499 999", 1);
        run.due("held 1 2", 2);
    }

    private static void heldInRisingOrder() {
        Run run = new Run("Term 5: in rising order of COUNT / TOTAL");
        run.puts(0, 1, 2);
        run.puts(1, 3, 4);
        run.puts(2, 1);
        // 1, 1, 1/6, 1/3: against 1/4, 1/3, 1/2, 1 of p / q
        run.due("ask 0 0 1 0", 0);
        run.due("ask 0 2 1 0", 1);
        run.due("drop 2", 1);
        run.puts(2, 5);
        run.due("ask 0 0 1 1", 2);
        run.due("ask 0 2 1 0", 3);
        called(run, "held 999 1000", 0, 0, 1, 0);
        run.due("anew", "done");
        run.puts(5, 1);
        run.puts(6, 2);
        // 1/2 as 1 of 2, 1/6 as 1 of 6, 1/3 as 1 of 3: against 1/3, 1/2, 1
        run.due("ask 0 5 6 1", 0);
        run.due("ask 0 0 1 1", 1);
        run.due("ask 0 2 1 0", 2);
        called(run, "held 1 2", 0, 1, 0);
        called(run, "held 2 3", 1, 1, 1);
        called(run, "held 665 998", 0, 1, 0);
        called(run, "held 499 999", 0, 0, 0);
    }

    /** How many the call calls different, and which. */
    private static void called(Run run, String held, int... which) {
        int all = 0;
        for (int one : which) {
            all += one;
        }
        run.due(held, all);
        for (int i = 0; i < which.length; i++) {
            run.due("asked " + i + " 2", which[i]);
        }
    }

    private static void heldEndsAtTheFirst() {
        Run run = new Run("Term 5: the first that isn't ends it, all others aren't");
        run.puts(0, 1, 2);
        run.puts(1, 3);
        run.puts(2, 1);
        // 1/3 is above a half of 3/5; 1/2, which is not above 3/5, is none either
        run.due("ask 0 2 1 1", 0);
        run.due("ask 0 0 1 1", 1);
        called(run, "held 3 5", 0, 0);
        called(run, "held 2 3", 1, 1);
    }

    private static void heldOfAlikeOnes() {
        Run run = new Run("Term 5: of alike ones the first asked");
        run.puts(0, 1, 2);
        run.puts(1, 3, 4);
        run.puts(2, 1);
        run.puts(3, 2);
        // 1/6 as SUMS and as RANKS, and 1/2: against 1/3, 1/2, 1 of p / q
        run.due("ask 0 0 1 1", 0);
        run.due("ask 0 2 3 1", 1);
        run.due("ask 1 0 1 1", 2);
        called(run, "held 1 2", 1, 1, 1);
        called(run, "held 499 1000", 0, 0, 0);
        run.due("ask 4 2 3 1", 3);
        // 1/6, 1/6, then 1/2 twice
        called(run, "held 2 3", 1, 0, 1, 0);
        called(run, "held 665 998", 0, 0, 0, 0);
        called(run, "held 999 1000", 1, 0, 1, 0);
    }

    private static void heldOf20() {
        Run run = new Run("Term 5: HELD of 20");
        run.puts(0, 1, 2, 3, 4, 5);
        run.puts(1, 11, 12, 13, 14, 15);
        for (int i = 0; i < 20; i++) {
            run.due("ask 1 0 1 1", i);
        }
        run.due("asked 19 1", 252);
        // 1/252 against p / 20 q
        run.due("held 5 63", 20);
        run.due("asked 0 2", 1);
        run.due("asked 19 2", 1);
        run.due("held 78 983", 0);
        run.due("asked 0 2", 0);
        run.due("asked 19 2", 0);
    }

    private static void heldOfTheLeastAndTheGreatest() {
        Run run = new Run("Term 5: HELD of 1 / 20! and of 1");
        run.puts(0, Run.rising(20, 0, 1));
        run.puts(1, Run.rising(20, 40, -1));
        run.due("ask 5 0 1 0", 0);
        run.due("ask 5 0 1 1", 1);
        run.due("asked 0 0", 2432902008176640000L);
        run.due("asked 1 0", 1);
        called(run, "held 1 1000", 0, 1);
        // a chance of 1 is above every p / q
        called(run, "held 999 1000", 0, 1);
    }

    // Promise 22: the LIST is empty

    private static void anewEmptiesTheList() {
        Run run = Run.furnished("Promise 22: the LIST is empty");
        run.due("anew", "done");
        for (int what = 0; what <= 2; what++) {
            run.still("asked 0 " + what, NONE);
            run.still("asked 3 " + what, NONE);
        }
        run.still("held 999 1000", 0);
        run.still("anew", "done");
        run.due("ask 0 0 1 0", 0);
        // the earlier place 0 was called different, this one came later
        run.due("asked 0 2", 0);
        run.still("asked 1 0", NONE);
    }

    private static void anewOfAFullList() {
        Run run = new Run("Promise 22: the LIST is empty, and takes 20 again");
        run.puts(0, 1);
        run.puts(1, 2);
        for (int round = 0; round < 2; round++) {
            for (int i = 0; i < 20; i++) {
                run.due("ask 0 0 1 " + i % 2, i);
            }
            run.still("ask 0 0 1 0", NONE);
            run.due("anew", "done");
        }
        run.still("asked 0 0", NONE);
    }

    private static void anewLeavesAllElse() {
        Run run = Run.furnished("Promise 22: the LIST alone");
        run.changesOnly("asked", "anew", "done");
        run.due("row 12 0", 30);
        run.due("ends 0", -3);
        run.due("margins 0", 35);
        run.due("number 0 2", 9);
    }
}
