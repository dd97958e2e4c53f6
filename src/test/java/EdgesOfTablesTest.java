/** The edges that term 4 and promises 16 to 18 name, a sentence a method. */
public final class EdgesOfTablesTest {
    private static final int NONE = Run.NONE;
    private static final int LEAST = Run.LEAST;
    private static final int GREATEST = Run.GREATEST;
    private static final long HALF_OF_40 = 137846528820L;

    public static void main(String[] args) {
        tableRows();
        tableColumns();
        tableOfEachSize();
        tableHasCounts0();
        cellNoSuchRow();
        cellNoSuchColumn();
        cellOfASmallerTable();
        cellBelow0();
        cellMoreThan40();
        cellMoreThan40InAll();
        cellInThePlaceOfAnother();
        marginsNoSuchWhat();
        marginsOfAnEmptyTable();
        marginsOfOneRow();
        marginsOfOneColumn();
        marginsOfAFullTable();
        marginsOfThreeByFour();
        marginsApart();
        unlikelyTakesAsMany();
        firstCountAtItsLeast();
        firstCountAtItsGreatest();
        firstCountThatCannotChange();
        marginsOfTheTableAsItIs();
        Run.end("the edges of the tables");
    }

    private static void fill(Run run, int[]... rows) {
        run.call("table " + rows.length + " " + rows[0].length);
        for (int i = 0; i < rows.length; i++) {
            for (int j = 0; j < rows[i].length; j++) {
                run.due("cell " + i + " " + j + " " + rows[i][j], true);
            }
        }
    }

    private static int[] of(int... counts) {
        return counts;
    }

    private static void margins(Run run, long... want) {
        for (int what = 0; what <= 5; what++) {
            run.due("margins " + what, want[what]);
        }
    }

    // Promise 16: the TABLE has so many rows and columns (2 or 3, 2 to 4), counts 0: true; false for others

    private static void tableRows() {
        for (int columns = 2; columns <= 4; columns++) {
            Run run = Run.furnished("Promise 16: 2 or 3 rows");
            for (int rows : new int[] {1, 4, 0, -1, -2, LEAST, GREATEST}) {
                run.still("table " + rows + " " + columns, false);
            }
            run.due("table 2 " + columns, true);
            run.still("cell 2 0 0", false);
            run.due("table 3 " + columns, true);
            run.due("cell 2 0 0", true);
            run.still("cell 3 0 0", false);
        }
    }

    private static void tableColumns() {
        for (int rows = 2; rows <= 3; rows++) {
            Run run = Run.furnished("Promise 16: 2 to 4 columns");
            for (int columns : new int[] {1, 5, 0, -1, -2, LEAST, GREATEST}) {
                run.still("table " + rows + " " + columns, false);
            }
            run.due("table " + rows + " 2", true);
            run.due("cell 0 1 0", true);
            run.still("cell 0 2 0", false);
            run.due("table " + rows + " 4", true);
            run.due("cell 0 3 0", true);
            run.still("cell 0 4 0", false);
        }
        Run run = Run.furnished("Promise 16: neither rows nor columns");
        run.still("table 1 1", false);
        run.still("table 4 5", false);
        run.still("table 1 5", false);
    }

    private static void tableOfEachSize() {
        for (int rows = 2; rows <= 3; rows++) {
            for (int columns = 2; columns <= 4; columns++) {
                Run run = Run.furnished("Promise 16: so many rows and columns, " + rows + " by " + columns);
                run.due("table " + rows + " " + columns, true);
                for (int i = 0; i < rows; i++) {
                    for (int j = 0; j < columns; j++) {
                        run.due("cell " + i + " " + j + " 1", true);
                    }
                }
                run.still("cell " + rows + " 0 0", false);
                run.still("cell 0 " + columns + " 0", false);
                run.still("cell " + (rows - 1) + " " + columns + " 0", false);
                run.still("cell " + rows + " " + (columns - 1) + " 0", false);
            }
        }
    }

    private static void tableHasCounts0() {
        Run run = Run.furnished("Promise 16: counts 0");
        run.due("table 3 4", true);
        run.due("cell 2 3 40", true);
        run.still("cell 0 0 1", false);
        run.due("table 3 4", true);
        margins(run, 1, 1, 1, 1, 1, 1);
        for (int place = 0; place < 12; place++) {
            run.due("cell " + place / 4 + " " + place % 4 + " 3", true);
        }
        run.due("table 2 2", true);
        margins(run, 1, 1, 1, 1, 1, 1);
        run.due("cell 0 0 40", true);
        // what was behind the edges of the smaller table is gone too
        run.due("table 3 4", true);
        margins(run, 1, 1, 1, 1, 1, 1);
        run.due("cell 2 3 40", true);
        margins(run, 1, 1, 1, 1, 1, 1);
    }

    // Promise 17: false, and nothing happens: no such place, v below 0, or more than 40 in all

    private static void cellNoSuchRow() {
        Run run = Run.furnished("Promise 17: no such row");
        for (int v = 0; v <= 1; v++) {
            run.still("cell -1 0 " + v, false);
            run.still("cell 2 0 " + v, false);
            run.still("cell 3 0 " + v, false);
            run.still("cell " + LEAST + " 0 " + v, false);
            run.still("cell " + GREATEST + " 0 " + v, false);
        }
        run.due("cell 0 0 1", true);
        run.due("cell 1 0 1", true);
    }

    private static void cellNoSuchColumn() {
        Run run = Run.furnished("Promise 17: no such column");
        for (int v = 0; v <= 1; v++) {
            run.still("cell 0 -1 " + v, false);
            run.still("cell 1 -1 " + v, false);
            run.still("cell 0 3 " + v, false);
            run.still("cell 0 4 " + v, false);
            run.still("cell 0 " + LEAST + " " + v, false);
            run.still("cell 0 " + GREATEST + " " + v, false);
        }
        run.due("cell 0 0 1", true);
        run.due("cell 0 2 1", true);
    }

    private static void cellOfASmallerTable() {
        Run run = Run.furnished("Promise 17: no such place any more");
        run.due("table 3 4", true);
        run.due("cell 2 3 1", true);
        run.due("table 2 4", true);
        run.still("cell 2 3 1", false);
        run.due("cell 1 3 1", true);
        run.due("table 2 3", true);
        run.still("cell 1 3 1", false);
        run.due("cell 1 2 1", true);
    }

    private static void cellBelow0() {
        Run run = Run.furnished("Promise 17: v below 0");
        run.still("cell 0 0 -1", false);
        run.still("cell 1 0 -1", false);
        run.still("cell 0 0 -40", false);
        run.still("cell 0 0 " + LEAST, false);
        run.due("cell 0 0 0", true);
        run.still("cell 0 0 -1", false);
    }

    private static void cellMoreThan40() {
        Run run = new Run("Promise 17: more than 40 in one place");
        run.still("cell 1 0 41", false);
        run.due("cell 1 0 40", true);
        run.still("cell 1 0 41", false);
        run.still("cell 1 0 " + GREATEST, false);
        run.still("cell 0 0 " + GREATEST, false);
        run.due("cell 0 0 0", true);
    }

    private static void cellMoreThan40InAll() {
        // the furnished table has 2 1 0 in its first row and 0 3 1 in its second
        Run run = Run.furnished("Promise 17: more than 40 in all");
        run.still("cell 0 2 34", false);
        run.due("cell 0 2 33", true);
        run.still("cell 1 0 1", false);
        run.still("cell 0 2 34", false);
        run.due("cell 1 0 0", true);
        run.due("cell 0 2 32", true);
        run.due("cell 1 0 1", true);
        run.still("cell 1 0 2", false);
    }

    private static void cellInThePlaceOfAnother() {
        Run run = Run.furnished("Promise 17: a count of the TABLE is v, no longer what it was");
        // 33 and the 3 that were there would be within only if the 3 no longer count
        run.still("cell 1 1 37", false);
        run.due("cell 1 1 36", true);
        run.due("cell 1 1 36", true);
        run.still("cell 0 2 1", false);
        run.due("cell 1 1 3", true);
        margins(run, 35, 4, 9, 6, 5, 35);
    }

    // Promise 18: NONE for another what

    private static void marginsNoSuchWhat() {
        Run run = Run.furnished("Promise 18: NONE for another what");
        long[] want = {35, 4, 9, 6, 5, 35};
        run.still("margins -1", NONE);
        for (int what = 0; what <= 5; what++) {
            run.still("margins " + what, want[what]);
        }
        run.still("margins 6", NONE);
        run.still("margins " + LEAST, NONE);
        run.still("margins " + GREATEST, NONE);
    }

    // Term 4: counts 0 and more, 40 in all at most

    private static void marginsOfAnEmptyTable() {
        for (int rows = 2; rows <= 3; rows++) {
            for (int columns = 2; columns <= 4; columns++) {
                Run run = new Run("Term 4: counts 0, " + rows + " by " + columns);
                run.due("table " + rows + " " + columns, true);
                margins(run, 1, 1, 1, 1, 1, 1);
            }
        }
    }

    private static void marginsOfOneRow() {
        Run run = new Run("Term 4: other rows without a thing");
        fill(run, of(0, 0, 0, 0), of(0, 0, 0, 0), of(10, 10, 10, 10));
        margins(run, 1, 1, 1, 1, 1, 1);
        fill(run, of(20, 20), of(0, 0));
        margins(run, 1, 1, 1, 1, 1, 1);
    }

    private static void marginsOfOneColumn() {
        Run run = new Run("Term 4: other columns without a thing");
        fill(run, of(0, 0, 0, 5), of(0, 0, 0, 2), of(0, 0, 0, 1));
        margins(run, 168, 168, 168, 1, 168, 168);
        fill(run, of(5, 0), of(2, 0), of(1, 0));
        margins(run, 168, 168, 168, 1, 168, 168);
        // the most sharings that there can be
        long all = 241365994493904000L;
        fill(run, of(13, 0, 0, 0), of(13, 0, 0, 0), of(14, 0, 0, 0));
        margins(run, all, all, all, 1, all, all);
    }

    private static void marginsOfAFullTable() {
        Run run = new Run("Term 4: 40 in all");
        fill(run, of(10, 10), of(10, 10));
        margins(run, HALF_OF_40, 34134779536L, HALF_OF_40, 21, 85990654178L, 85990654178L);
    }

    private static void marginsOfThreeByFour() {
        Run run = new Run("Term 4: 40 in all, 3 by 4");
        fill(run, of(4, 4, 4, 4), of(3, 3, 3, 3), of(3, 3, 3, 3));
        margins(run, 169961887789457400L, 311169600000000L, 169961887789457400L, 100819, 108816052472618400L,
                110262981718890000L);
    }

    private static void marginsApart() {
        Run run = new Run("Term 4: each row in columns of its own");
        fill(run, of(20, 0), of(0, 20));
        margins(run, HALF_OF_40, 1, 2, 21, 1, HALF_OF_40);
        fill(run, of(0, 20), of(20, 0));
        margins(run, HALF_OF_40, 1, 2, 21, HALF_OF_40, 1);
        fill(run, of(13, 0, 0, 0), of(0, 13, 0, 0), of(0, 0, 7, 7));
        margins(run, 241365994493904000L, 1, 2, 75600, 20058300, 241365994493904000L);
    }

    // Term 4: as UNLIKELY: tables with no more sharings than the one that is there

    private static void unlikelyTakesAsMany() {
        Run run = new Run("Term 4: no more sharings than the one that is there");
        // first row 0 3: 4, 1 2: 12, 2 1: 4
        fill(run, of(2, 1), of(0, 3));
        run.due("margins 2", 8);
        fill(run, of(0, 3), of(2, 1));
        run.due("margins 2", 8);
        fill(run, of(1, 2), of(1, 2));
        run.due("margins 1", 12);
        run.due("margins 2", 20);
    }

    // Promise 18: those with a first count that is not less, not greater than the one that is there

    private static void firstCountAtItsLeast() {
        Run run = new Run("Promise 18: a first count that can't be less");
        fill(run, of(0, 3), of(2, 1));
        margins(run, 20, 4, 8, 3, 20, 4);
        // at least 1: the first column has more than the second row
        fill(run, of(1, 2), of(2, 0));
        margins(run, 10, 3, 4, 3, 10, 3);
    }

    private static void firstCountAtItsGreatest() {
        Run run = new Run("Promise 18: a first count that can't be greater");
        fill(run, of(2, 1), of(0, 3));
        margins(run, 20, 4, 8, 3, 4, 20);
        fill(run, of(3, 0), of(1, 2));
        margins(run, 20, 4, 8, 3, 4, 20);
    }

    private static void firstCountThatCannotChange() {
        Run run = new Run("Promise 18: a first count that is the same in all tables");
        fill(run, of(0, 2, 1), of(0, 1, 2));
        // first row 3 0: 1, 2 1: 9, 1 2: 9, 0 3: 1
        margins(run, 20, 9, 20, 4, 20, 20);
        fill(run, of(0, 0, 0), of(0, 2, 1), of(0, 1, 2));
        margins(run, 20, 9, 20, 4, 20, 20);
    }

    // Promise 18: of the TABLE, as it is at each call, whichever what is asked first

    private static void marginsOfTheTableAsItIs() {
        long[] tall = {20, 4, 8, 3, 4, 20};
        long[] wide = {35, 4, 9, 6, 5, 35};
        for (int what = 0; what <= 5; what++) {
            Run run = new Run("Promise 18: of the TABLE, what " + what + " alone");
            run.still("margins " + what, 1);
            fill(run, of(2, 1), of(0, 3));
            run.still("margins " + what, tall[what]);
            fill(run, of(2, 1, 0), of(0, 3, 1));
            run.still("margins " + what, wide[what]);
            run.due("table 2 2", true);
            run.still("margins " + what, 1);
        }
    }
}
