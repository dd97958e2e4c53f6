/** The edges that 'What it is', term 1 and promises 1 to 5 name, a sentence a method. */
public final class EdgesOfSamplesTest {
    private static final int NONE = Run.NONE;
    private static final int LEAST = Run.LEAST;
    private static final int GREATEST = Run.GREATEST;

    public static void main(String[] args) {
        usedFor512Calls();
        newSamplesAreEmpty();
        newListIsEmpty();
        newTableIsTwoByTwo();
        newTableHasCounts0();
        nothingWasSpreadOrSpanned();
        putNoSuchSample();
        putNoSuchNumber();
        putToAFullSample();
        putFillsEachSampleApart();
        putKeepsTheOrder();
        dropNoSuchSample();
        dropTellsHowManyItHad();
        dropLeavesItEmpty();
        turnNoSuchSample();
        turnTimes();
        turnShift();
        turnBeyondAbove();
        turnBeyondBelow();
        turnBeyondInOnePlace();
        turnAnEmptySample();
        turnToOneNumber();
        numberNoSuchSample();
        numberNoSuchPlace();
        numberOfAFullSample();
        numberOfADroppedSample();
        Run.end("the edges of the samples");
    }

    // What it is: an object is used for at most 512 calls after it has been made

    private static void usedFor512Calls() {
        Run run = new Run("What it is: at most 512 calls");
        run.puts(0, Run.rising(20, -500, 1));
        run.puts(1, Run.rising(20, 481, 1));
        for (int round = 0; run.calls() + 7 <= 511; round++) {
            run.due("ask 1 0 1 1", 0);
            run.due("held 1 1000", 1);
            run.due("asked 0 2", 1);
            run.due("anew", "done");
            run.due("drop 2", round == 0 ? 0 : 1);
            run.due("put 2 " + round, 1);
            run.due("number 2 0", round);
        }
        while (run.calls() < 511) {
            run.due("number 1 19", 500);
        }
        run.due("count 1 0 1 2", 2);
    }

    // Promise 1: empty SAMPLES, an empty LIST, a TABLE of 2 by 2 with counts 0

    private static void newSamplesAreEmpty() {
        Run run = new Run("Promise 1: empty SAMPLES");
        for (int sample = 0; sample < 8; sample++) {
            run.still("number " + sample + " 0", Run.NO_NUMBER);
            run.still("drop " + sample, 0);
            run.due("put " + sample + " 0", 1);
        }
    }

    private static void newListIsEmpty() {
        Run run = new Run("Promise 1: an empty LIST");
        for (int what = 0; what <= 2; what++) {
            run.still("asked 0 " + what, NONE);
        }
        run.still("held 1 2", 0);
        run.still("anew", "done");
        run.puts(0, 1);
        run.puts(1, 2);
        run.due("ask 0 0 1 0", 0);
    }

    private static void newTableIsTwoByTwo() {
        Run run = new Run("Promise 1: a TABLE of 2 by 2");
        run.due("cell 1 1 3", true);
        run.still("cell 2 0 0", false);
        run.still("cell 2 1 1", false);
        run.still("cell 0 2 0", false);
        run.still("cell 1 2 1", false);
    }

    private static void newTableHasCounts0() {
        for (int place = 0; place < 4; place++) {
            Run run = new Run("Promise 1: with counts 0");
            for (int what = 0; what <= 5; what++) {
                run.still("margins " + what, 1);
            }
            // any count elsewhere would leave less than 40
            run.due("cell " + place / 2 + " " + place % 2 + " 40", true);
        }
    }

    private static void nothingWasSpreadOrSpanned() {
        Run run = new Run("Promises 12, 14: ahead of any");
        for (int what = 0; what <= 3; what++) {
            run.still("row 0 " + what, NONE);
            run.still("ends " + what, NONE);
        }
    }

    // Promise 2: NONE, and nothing happens: no such SAMPLE, number, or it has 20

    private static void putNoSuchSample() {
        Run run = Run.furnished("Promise 2: no such SAMPLE");
        run.still("put -1 3", NONE);
        run.due("put 0 3", 4);
        run.due("put 7 3", 4);
        run.still("put 8 3", NONE);
        run.still("put " + LEAST + " 3", NONE);
        run.still("put " + GREATEST + " 3", NONE);
    }

    private static void putNoSuchNumber() {
        Run run = Run.furnished("Promise 2: no such number");
        run.still("put 5 501", NONE);
        run.due("put 5 500", 1);
        run.due("put 5 -500", 2);
        run.still("put 5 -501", NONE);
        run.still("put 5 " + LEAST, NONE);
        run.still("put 5 " + GREATEST, NONE);
        run.due("number 5 0", 500);
        run.due("number 5 1", -500);
    }

    private static void putToAFullSample() {
        for (int sample = 0; sample <= 7; sample += 7) {
            Run run = new Run("Promise 2: or it has 20");
            run.puts(sample, Run.rising(18, 0, 1));
            run.due("put " + sample + " 40", 19);
            run.due("put " + sample + " 50", 20);
            run.still("put " + sample + " 60", NONE);
            run.still("put " + sample + " 50", NONE);
            run.due("number " + sample + " 19", 50);
            run.due("drop " + sample, 20);
            run.due("put " + sample + " 60", 1);
        }
    }

    private static void putFillsEachSampleApart() {
        Run run = new Run("Promise 2: it has 20, each SAMPLE for itself");
        for (int sample = 0; sample < 8; sample++) {
            for (int i = 1; i <= 20; i++) {
                run.due("put " + sample + " " + (sample * 20 + i), i);
            }
        }
        for (int sample = 0; sample < 8; sample++) {
            run.due("put " + sample + " 0", NONE);
            run.due("number " + sample + " 0", sample * 20 + 1);
            run.due("number " + sample + " 19", sample * 20 + 20);
        }
    }

    private static void putKeepsTheOrder() {
        Run run = new Run("Term 1: in the order in which they come");
        run.puts(4, 3, -3, 3, 0);
        run.due("number 4 0", 3);
        run.due("number 4 1", -3);
        run.due("number 4 2", 3);
        run.due("number 4 3", 0);
    }

    // Promise 3: a SAMPLE is empty then: how many it had; NONE: none such

    private static void dropNoSuchSample() {
        Run run = Run.furnished("Promise 3: NONE: none such");
        run.still("drop -1", NONE);
        run.still("drop 8", NONE);
        run.still("drop " + LEAST, NONE);
        run.still("drop " + GREATEST, NONE);
        run.due("drop 0", 3);
        run.due("drop 7", 3);
    }

    private static void dropTellsHowManyItHad() {
        Run run = Run.furnished("Promise 3: how many it had");
        run.still("drop 5", 0);
        run.due("drop 2", 1);
        run.due("drop 3", 20);
        run.still("drop 3", 0);
    }

    private static void dropLeavesItEmpty() {
        Run run = Run.furnished("Promise 3: a SAMPLE is empty then");
        run.due("score 0 0 7", 15);
        run.changesOnly("number", "drop 7", 3);
        run.still("number 7 0", Run.NO_NUMBER);
        run.still("score 0 0 7", Run.NOT_ASKED);
        run.due("number 0 2", 9);
        run.due("number 4 3", 6);
        run.due("put 7 6", 1);
        run.due("number 7 0", 6);
        run.still("number 7 1", Run.NO_NUMBER);
    }

    // Promise 4: false, and nothing happens: no such SAMPLE, k not -10 .. 10, c not -1000 .. 1000, or one beyond

    private static void turnNoSuchSample() {
        Run run = Run.furnished("Promise 4: no such SAMPLE");
        run.still("turn -1 1 1", false);
        run.still("turn 8 1 1", false);
        run.still("turn " + LEAST + " 1 1", false);
        run.still("turn " + GREATEST + " 1 1", false);
        run.due("turn 0 1 1", true);
        run.due("number 0 0", 6);
        run.due("turn 7 -1 0", true);
        run.due("number 7 1", -500);
    }

    private static void turnTimes() {
        Run run = Run.furnished("Promise 4: k not -10 .. 10");
        run.puts(5, 0, 0);
        run.puts(6, 50, -50);
        for (int k : new int[] {-11, 11, 12, -12, LEAST, GREATEST}) {
            // of 0 none would be beyond, so it is k alone that is refused
            run.still("turn 5 " + k + " 0", false);
            run.still("turn 6 " + k + " 0", false);
        }
        run.due("turn 6 10 0", true);
        run.due("number 6 0", 500);
        run.due("number 6 1", -500);
        run.due("drop 6", 2);
        run.puts(6, 50, -50);
        run.due("turn 6 -10 0", true);
        run.due("number 6 0", -500);
        run.due("number 6 1", 500);
    }

    private static void turnShift() {
        Run run = Run.furnished("Promise 4: c not -1000 .. 1000");
        run.puts(5, 500);
        run.puts(6, -500);
        for (int k = 1; k <= 3; k++) {
            // twice or three times 500 and so much less would be within
            run.still("turn 5 " + k + " -1001", false);
            run.still("turn 6 " + k + " 1001", false);
        }
        run.still("turn 5 1 " + LEAST, false);
        run.still("turn 6 1 " + GREATEST, false);
        run.due("turn 5 2 -1000", true);
        run.due("number 5 0", 0);
        run.due("turn 6 1 1000", true);
        run.due("number 6 0", 500);
        run.due("turn 6 1 -1000", true);
        run.due("number 6 0", -500);
    }

    private static void turnBeyondAbove() {
        Run run = Run.furnished("Promise 4: one would be beyond 500");
        run.puts(5, 99);
        run.still("turn 5 5 6", false);
        run.still("turn 5 -5 996", false);
        run.due("turn 5 -5 995", true);
        run.due("number 5 0", 500);
        run.still("turn 5 1 1", false);
        run.due("turn 5 0 99", true);
        run.due("turn 5 5 5", true);
        run.due("number 5 0", 500);
    }

    private static void turnBeyondBelow() {
        Run run = Run.furnished("Promise 4: one would be beyond -500");
        run.puts(5, 99);
        run.still("turn 5 -5 -6", false);
        run.still("turn 5 5 -996", false);
        run.due("turn 5 5 -995", true);
        run.due("number 5 0", -500);
        run.still("turn 5 1 -1", false);
        run.due("turn 5 0 99", true);
        run.due("turn 5 -5 -5", true);
        run.due("number 5 0", -500);
    }

    private static void turnBeyondInOnePlace() {
        for (int place = 0; place < 20; place += place == 0 ? 9 : 10) {
            Run run = new Run("Promise 4: or one would be beyond, place " + place);
            int[] numbers = Run.rising(20, 1, 1);
            numbers[place] = 251;
            run.puts(3, numbers);
            run.still("turn 3 2 -1", false);
            run.still("turn 3 -2 1", false);
            run.due("turn 3 2 -2", true);
            for (int i = 0; i < 20; i++) {
                run.due("number 3 " + i, 2 * numbers[i] - 2);
            }
        }
    }

    private static void turnAnEmptySample() {
        Run run = Run.furnished("Promise 4: all numbers of a SAMPLE, if there are none");
        run.still("turn 5 10 1000", true);
        run.still("turn 5 -10 -1000", true);
        run.still("turn 5 11 0", false);
        run.still("turn 5 -11 0", false);
        run.still("turn 5 1 1001", false);
        run.still("turn 5 1 -1001", false);
    }

    private static void turnToOneNumber() {
        Run run = Run.furnished("Promise 4: 0 times as much and c more");
        run.still("turn 4 0 501", false);
        run.still("turn 4 0 -501", false);
        run.still("turn 4 1 0", true);
        run.changesOnly("number", "turn 4 0 500", true);
        for (int i = 0; i < 4; i++) {
            run.due("number 4 " + i, 500);
        }
        run.due("turn 4 0 -500", true);
        run.due("number 4 3", -500);
        run.still("number 4 4", Run.NO_NUMBER);
    }

    // Promise 5: IndexOutOfBoundsException: there is none such

    private static void numberNoSuchSample() {
        Run run = Run.furnished("Promise 5: none such, by the SAMPLE");
        run.still("number -1 0", Run.NO_NUMBER);
        run.still("number 0 0", 5);
        run.still("number 7 0", -500);
        run.still("number 8 0", Run.NO_NUMBER);
        run.still("number " + LEAST + " 0", Run.NO_NUMBER);
        run.still("number " + GREATEST + " 0", Run.NO_NUMBER);
    }

    private static void numberNoSuchPlace() {
        Run run = Run.furnished("Promise 5: none such, by its place");
        run.still("number 0 -1", Run.NO_NUMBER);
        run.still("number 0 0", 5);
        run.still("number 0 2", 9);
        run.still("number 0 3", Run.NO_NUMBER);
        run.still("number 0 " + LEAST, Run.NO_NUMBER);
        run.still("number 0 " + GREATEST, Run.NO_NUMBER);
        run.still("number 2 0", 7);
        run.still("number 2 1", Run.NO_NUMBER);
        run.still("number 5 0", Run.NO_NUMBER);
        run.still("number 5 -1", Run.NO_NUMBER);
    }

    private static void numberOfAFullSample() {
        Run run = Run.furnished("Promise 5: number i of a full SAMPLE");
        run.still("number 3 -1", Run.NO_NUMBER);
        run.still("number 3 0", -10);
        run.still("number 3 19", 9);
        run.still("number 3 20", Run.NO_NUMBER);
        run.still("number 3 21", Run.NO_NUMBER);
    }

    private static void numberOfADroppedSample() {
        Run run = Run.furnished("Promise 5: none such behind drop");
        run.due("drop 3", 20);
        run.still("number 3 0", Run.NO_NUMBER);
        run.still("number 3 19", Run.NO_NUMBER);
        run.due("put 3 4", 1);
        run.still("number 3 0", 4);
        run.still("number 3 1", Run.NO_NUMBER);
    }
}
