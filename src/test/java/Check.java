/** Counts the answers that are not as due. */
final class Check {
    private int right = 0;
    private int wrong = 0;

    void due(String call, int got, int want) {
        if (got == want) {
            right++;
        } else {
            wrong++;
            System.out.println(call + " answered " + got + ", due is " + want);
        }
    }

    void holds(String what, boolean holds) {
        due(what, holds ? 1 : 0, 1);
    }

    /** THE ROW whole: kind and number of each row, in order. */
    void dueRow(String where, TurnClock x, int... kindsAndNumbers) {
        int rows = kindsAndNumbers.length / 2;
        due(where + ": told(6)", x.told(6), rows);
        for (int i = 0; i < rows; i++) {
            due(where + ": row(" + i + ", 0)", x.row(i, 0), kindsAndNumbers[2 * i]);
            due(where + ": row(" + i + ", 1)", x.row(i, 1), kindsAndNumbers[2 * i + 1]);
        }
        due(where + ": row(" + rows + ", 0)", x.row(rows, 0), TurnClock.NONE);
        due(where + ": row(" + rows + ", 1)", x.row(rows, 1), TurnClock.NONE);
    }

    void end() {
        System.out.println(right + " answers as due, " + wrong + " not");
        if (wrong != 0) {
            System.exit(1);
        }
    }
}
