/** Objects that the edge tests begin with. */
final class Made {
    private Made() {
    }

    static CellWindows field(int rows, int columns, int... addends) {
        CellWindows x = new CellWindows();
        x.setField(rows, columns);
        for (int addend : addends) {
            x.addStatement(addend);
        }
        return x;
    }

    /** One statement of addend 1 that reads itself. */
    static CellWindows reading(int rows, int columns, int rowsBack, int columnsBack) {
        CellWindows x = field(rows, columns, 1);
        x.addRead(0, 0, 1, rowsBack, columnsBack);
        return x;
    }

    static CellWindows lasting(int rows, int columns) {
        CellWindows x = field(rows, columns, 1);
        x.setLasting(0, true);
        return x;
    }

    /**
     * Two statements on 2 rows of 3 points, with one read and two reads, in which each change shows in the answers
     * (EdgeRefusedTests makes sure of it).
     */
    static CellWindows telling() {
        CellWindows x = field(2, 3, 7, 20);
        x.addRead(0, 1, 1, 1, -1);
        x.addRead(1, 0, 2, 1, 1);
        x.addRead(1, 1, 3, 0, 1);
        x.setLasting(0, true);
        x.setSchedule(2, 1);
        x.setOffset(0, 1);
        x.setOffset(1, 2);
        x.keepTwoRests(0, 2, 2);
        x.keepSlant(1, 1, 3);
        return x;
    }

    /** Four statements, the most there can be, on 2 points; the last one has four reads, the most it can have. */
    static CellWindows full() {
        CellWindows x = field(1, 2, 1, 2, 3, 4);
        for (int source = 0; source < 4; source++) {
            x.addRead(3, source, source + 1, 0, 1);
        }
        return x;
    }
}
