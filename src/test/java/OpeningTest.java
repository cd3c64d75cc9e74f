/** 'Terms', part 3 OPENING: a test for each sentence that names a boundary case. */
public final class OpeningTest {
    private static final int NO_END = 1, LACKS = 2, PAST = 3, ROOM = 4, BEHIND = 5;
    private static final RunChecks checks = new RunChecks("OpeningTest");

    public static void main(String[] args) {
        firstFromTheLeft();
        firstOfOnePiece();
        noEnd();
        noEndOfSigned();
        lacksMarked();
        lacksSigned();
        lacksRows();
        past();
        roomMarked();
        roomSigned();
        roomRows();
        roomRowEnd();
        roomGoingOn();
        behind();
        place();
        goingOnPast();
        howManyRows();
        checks.end();
    }

    private static void firstFromTheLeft() {
        checks.sentence("FAULTS, the first from the left");
        fails("ROOM, then NO END", Made.code(0, 0, 241, 9), ROOM, 0);
        fails("ROOM, then LACKS", Made.code(0, 0, 241, 9, 0, 1), ROOM, 0);
        fails("ROOM, then BEHIND", Made.code(0, 0, 241, 9, 0, 0, 9), ROOM, 0);
        fails("BEHIND, then LACKS", Made.code(0, 0, 0, 0, 1), BEHIND, 2);
        fails("ROOM, then ROOM", Made.code(0, 0, 240, 9, 0, 1, 9, 0, 241, 9, 0, 0), ROOM, 3);
        fails("PAST, then LACKS", Made.rowCode(3, 4, 9, 1), PAST, 0);
        fails("PAST, then ROOM", Made.rowCode(60, 61, 9, 0, 2, 0, 4, 1, 9, 0, 1), PAST, 0);
        fails("ROOM, then PAST", Made.rowCode(60, 0, 2, 0, 4, 1, 9, 61, 9, 0, 1), ROOM, 4);
        fails("signed ROOM, then LACKS", Made.code(1, 129, 9, 129, 9, 1, 1), ROOM, 2);
    }

    private static void firstOfOnePiece() {
        checks.sentence("of one PIECE the first here");
        fails("marked, LACKS ahead of ROOM", Made.code(0, 0, 241), LACKS, 0);
        fails("two bytes, LACKS ahead of ROOM", Made.with(Made.code(0, 0, 121, 9), 0, 2), LACKS, 0);
        fails("a UNIT, LACKS ahead of ROOM", Made.with(Made.code(0, 0, 120, 9, 9, 8), 0, 2), LACKS, 4);
        fails("signed, LACKS ahead of ROOM", Made.with(Made.code(1, 127, 9), 0, 4), LACKS, 0);
        fails("a signed run, LACKS ahead of ROOM", Made.with(Made.code(1, 196, 9, 9, 9), 0, 4), LACKS, 0);
        fails("LACKS ahead of PAST", Made.rowCode(3, 0, 4, 1, 2, 3), LACKS, 0);
        fails("the byte more, LACKS ahead of PAST", Made.rowCode(4, 0, 5, 1, 2, 3, 4, 5), LACKS, 0);
        fails("going on, LACKS ahead of PAST", Made.rowCode(3, 0, 2, 4), LACKS, 0);
        fails("LACKS ahead of ROOM", Made.rowCode(60, 0, 2, 0, 4, 0, 3, 1, 2, 3), LACKS, 4);
        fails("a run, PAST ahead of ROOM", Made.rowCode(60, 0, 2, 0, 4, 61, 9, 0, 1), PAST, 4);
        fails("bytes, PAST ahead of ROOM", Made.rowCode(3, 0, 2, 0, 80, 0, 4, 1, 2, 3, 4, 0, 1), PAST, 4);
    }

    private static void noEnd() {
        checks.sentence("1 NO END: CODE ends where a PIECE would begin (FORM 0, 2)");
        for (int unitBytes = 1; unitBytes <= 4; unitBytes *= 2) {
            fails("marked, nothing", Made.with(Made.code(0), 0, unitBytes), NO_END, 0);
        }
        fails("behind a UNIT", Made.code(0, 9), NO_END, 1);
        fails("behind a UNIT of two", Made.with(Made.code(0, 9, 9), 0, 2), NO_END, 2);
        fails("behind a UNIT of four", Made.with(Made.code(0, 9, 9, 9, 9), 0, 4), NO_END, 4);
        fails("behind a run", Made.code(0, 0, 2, 9), NO_END, 3);
        fails("behind 240 bytes", Made.code(0, 0, 240, 9), NO_END, 3);
        fails("rows, nothing", Made.rowCode(3), NO_END, 0);
        fails("behind a run of bytes", Made.rowCode(3, 3, 9), NO_END, 2);
        fails("behind a row's END", Made.rowCode(3, 0, 0), NO_END, 2);
        fails("behind going on", Made.rowCode(3, 0, 2, 1, 1), NO_END, 4);
        fails("behind three bytes and one", Made.rowCode(3, 0, 3, 1, 2, 3, 0), NO_END, 6);
        fails("behind four bytes", Made.rowCode(4, 0, 4, 1, 2, 3, 4), NO_END, 6);
        fails("behind all rows", Made.rowCode(60, 0, 2, 0, 3, 0, 0), NO_END, 6);
    }

    private static void noEndOfSigned() {
        checks.sentence("NO END: CODE ends where a PIECE would begin (FORM 0, 2)");
        checks.dueOpened("not signed, nothing", Made.code(1), "");
        checks.dueOpened("not signed, behind a run", Made.code(1, 255, 9), "9 9");
        checks.dueOpened("not signed, behind nothing", Made.code(1, 0, 9, 128), "9");
    }

    private static void lacksMarked() {
        checks.sentence("2 LACKS: it ends within a PIECE");
        fails("half of M and 0", Made.code(0, 0), LACKS, 0);
        lacks("a run", Made.code(0, 7, 0, 3, 9), 1, 3);
        lacks("a UNIT of two", Made.with(Made.code(0, 7, 7, 9, 9), 0, 2), 2, 2);
        lacks("a run of UNITS of two", Made.with(Made.code(0, 7, 7, 0, 3, 9, 9), 0, 2), 2, 4);
        lacks("a UNIT of four", Made.with(Made.code(0, 7, 7, 7, 7, 9, 9, 9, 9), 0, 4), 4, 4);
        lacks("a run of UNITS of four", Made.with(Made.code(0, 0, 1, 1, 1, 1, 1, 0, 3, 9, 9, 9, 9), 0, 4), 6, 6);
    }

    private static void lacksSigned() {
        checks.sentence("2 LACKS: it ends within a PIECE");
        lacks("signed, one by itself", Made.code(1, 0, 7, 0, 9), 2, 2);
        lacks("signed, three by themselves", Made.code(1, 0, 7, 2, 9, 9, 9), 2, 4);
        lacks("signed, a run", Made.code(1, 0, 7, 255, 9), 2, 2);
        lacks("signed, two of two by themselves", Made.with(Made.code(1, 0, 7, 7, 1, 9, 9, 9, 9), 0, 2), 3, 5);
        lacks("signed, a run of UNITS of four", Made.with(Made.code(1, 128, 255, 9, 9, 9, 9), 0, 4), 1, 5);
        RunForms x = Made.code(1, 127);
        Made.codes(x, Made.upFrom(0, 127));
        fails("127 of 128 by themselves", x, LACKS, 0);
        x.code(9);
        due("128 of them", x.open(), 128);
    }

    private static void lacksRows() {
        checks.sentence("2 LACKS: it ends within a PIECE");
        lacks("a run of bytes", Made.rowCode(9, 1, 7, 2, 9), 2, 2);
        lacks("a row's END", Made.rowCode(9, 1, 7, 0, 0), 2, 2);
        lacks("going on", Made.rowCode(9, 1, 7, 0, 2, 1, 1), 2, 4);
        lacks("three bytes and one more", Made.rowCode(9, 1, 7, 0, 3, 9, 9, 9, 0), 2, 6);
        lacks("four bytes", Made.rowCode(9, 1, 7, 0, 4, 9, 9, 9, 9), 2, 6);
        fails("half of END", Made.rowCode(9, 1, 7, 0), LACKS, 2);
    }

    /** CODE ends with a PIECE of this length behind some others: it is cut byte by byte. */
    private static void lacks(String what, RunForms x, int begins, int length) {
        boolean signed = x.told(0) == 1;
        x.open();
        due(what + ", whole", x.fault(), signed ? 0 : NO_END);
        for (int kept = length - 1; kept > 0; kept--) {
            x.cut(1, begins + kept);
            fails(what + ", " + kept + " of it", x, LACKS, begins);
        }
        x.cut(1, begins);
        x.open();
        due(what + ", none of it", x.fault(), signed ? 0 : NO_END);
    }

    private static void past() {
        checks.sentence("3 PAST: a row would have more than W bytes");
        checks.dueOpened("a run of W", Made.rowCode(3, 3, 9, 0, 1), "9 9 9");
        fails("a run of W and 1", Made.rowCode(3, 4, 9, 0, 1), PAST, 0);
        fails("a run of 255", Made.rowCode(60, 255, 9, 0, 1), PAST, 0);
        checks.dueOpened("two runs that make W", Made.rowCode(3, 2, 9, 1, 8, 0, 1), "9 9 8");
        fails("two runs that make more", Made.rowCode(3, 2, 9, 2, 8, 0, 1), PAST, 2);
        fails("one behind W", Made.rowCode(3, 3, 9, 1, 8, 0, 1), PAST, 2);
        fails("one behind going on to W", Made.rowCode(3, 0, 2, 3, 0, 1, 8, 0, 1), PAST, 4);
        checks.dueOpened("bytes that make W", Made.rowCode(4, 1, 9, 0, 3, 1, 2, 3, 0, 0, 1), "9 1 2 3");
        fails("bytes that make more", Made.rowCode(3, 1, 9, 0, 3, 1, 2, 3, 0, 0, 1), PAST, 2);
        fails("four bytes in three", Made.rowCode(3, 0, 4, 1, 2, 3, 4, 0, 1), PAST, 0);
        checks.dueOpened("the byte more is none of the row", Made.rowCode(3, 0, 3, 1, 2, 3, 7, 0, 1), "1 2 3");
        checks.dueOpened("W of 1", Made.rowCode(1, 1, 9, 0, 1), "9");
        fails("two in a row of 1", Made.rowCode(1, 2, 9, 0, 1), PAST, 0);
        checks.dueOpened("W of 60", Made.rowCode(60, 60, 9, 0, 1), Made.times(60, "9"));
        fails("61 in a row of 60", Made.rowCode(60, 61, 9, 0, 1), PAST, 0);
        fails("in a later row", Made.rowCode(3, 3, 9, 0, 0, 3, 9, 0, 0, 4, 9, 0, 1), PAST, 8);
    }

    private static void roomMarked() {
        checks.sentence("4 ROOM: there would be more than 240 bytes");
        opens("a run to 240", Made.code(0, 0, 240, 9, 0, 0), 240);
        fails("a run to 241", Made.code(0, 0, 241, 9, 0, 0), ROOM, 0);
        fails("a run to 255", Made.code(0, 0, 255, 9, 0, 0), ROOM, 0);
        opens("a UNIT to 240", Made.code(0, 0, 239, 9, 8, 0, 0), 240);
        fails("a UNIT to 241", Made.code(0, 0, 240, 9, 8, 0, 0), ROOM, 3);
        fails("a run of one to 241", Made.code(0, 0, 240, 9, 0, 1, 8, 0, 0), ROOM, 3);
        opens("120 of two", Made.with(Made.code(0, 0, 120, 9, 9, 0, 0), 0, 2), 240);
        fails("121 of two", Made.with(Made.code(0, 0, 121, 9, 9, 0, 0), 0, 2), ROOM, 0);
        opens("60 of four", Made.with(Made.code(0, 0, 60, 9, 9, 9, 9, 0, 0), 0, 4), 240);
        fails("61 of four", Made.with(Made.code(0, 0, 61, 9, 9, 9, 9, 0, 0), 0, 4), ROOM, 0);
        fails("255 of four", Made.with(Made.code(0, 0, 255, 9, 9, 9, 9, 0, 0), 0, 4), ROOM, 0);
        opens("a UNIT of four to 240", Made.with(Made.code(0, 0, 59, 9, 9, 9, 9, 8, 8, 8, 8, 0, 0), 0, 4), 240);
        fails("a UNIT of four to 244", Made.with(Made.code(0, 0, 60, 9, 9, 9, 9, 8, 8, 8, 8, 0, 0), 0, 4), ROOM, 6);
        opens("with DIFFERENCES", Made.with(Made.code(0, 0, 240, 9, 0, 0), 3, 1), 240);
        fails("with DIFFERENCES", Made.with(Made.code(0, 0, 241, 9, 0, 0), 3, 1), ROOM, 0);
    }

    private static void roomSigned() {
        checks.sentence("4 ROOM: there would be more than 240 bytes");
        opens("signed, a run to 240", Made.code(1, 129, 9, 145, 8), 240);
        fails("signed, a run to 241", Made.code(1, 129, 9, 144, 8), ROOM, 2);
        opens("signed, one by itself to 240", Made.code(1, 129, 9, 146, 8, 0, 7), 240);
        fails("signed, two by themselves to 241", Made.code(1, 129, 9, 146, 8, 1, 7, 7), ROOM, 4);
        fails("signed, one behind 240", Made.code(1, 129, 9, 145, 8, 0, 7), ROOM, 4);
        opens("signed, nothing behind 240", Made.code(1, 129, 9, 145, 8, 128), 240);
        opens("signed, 60 of four", Made.with(Made.code(1, 197, 9, 9, 9, 9), 0, 4), 240);
        fails("signed, 61 of four", Made.with(Made.code(1, 196, 9, 9, 9, 9), 0, 4), ROOM, 0);
        RunForms x = Made.with(Made.code(1, 120), 0, 2);
        Made.codes(x, Made.upFrom(0, 242));
        fails("signed, 121 of two by themselves", x, ROOM, 0);
    }

    private static void roomRows() {
        checks.sentence("a byte would be put in, or 0 and 0 would end, a row that does not go wholly into 240");
        opens("a run in the last row of 60", Made.rowCode(60, 0, 2, 0, 3, 60, 9, 0, 1), 240);
        fails("a run behind it", Made.rowCode(60, 0, 2, 0, 4, 1, 9, 0, 1), ROOM, 4);
        opens("a run in the last row of 1", Made.rowCode(1, 0, 2, 0, 239, 1, 9, 0, 1), 240);
        fails("a run behind it", Made.rowCode(1, 0, 2, 0, 240, 1, 9, 0, 1), ROOM, 4);
        opens("a run in the last whole row of 7", Made.rowCode(7, 0, 2, 0, 33, 1, 9, 0, 1), 238);
        fails("a run in the row of 7 to 245", Made.rowCode(7, 0, 2, 0, 34, 1, 9, 0, 1), ROOM, 4);
        opens("a run in the last whole row of 59", Made.rowCode(59, 0, 2, 0, 3, 1, 9, 0, 1), 236);
        fails("a run in the row of 59 to 295", Made.rowCode(59, 0, 2, 0, 4, 1, 9, 0, 1), ROOM, 4);
        opens("bytes in the last row of 8", Made.rowCode(8, 0, 2, 0, 29, 0, 4, 1, 2, 3, 4, 0, 1), 240);
        fails("bytes behind it", Made.rowCode(8, 0, 2, 0, 30, 0, 4, 1, 2, 3, 4, 0, 1), ROOM, 4);
        fails("bytes in the row of 7 to 245", Made.rowCode(7, 0, 2, 0, 34, 0, 4, 1, 2, 3, 4, 0, 1), ROOM, 4);
        fails("a run of 0, too", Made.rowCode(60, 0, 2, 0, 4, 1, 0, 0, 1), ROOM, 4);
        opens("behind the last row's END nothing", Made.rowCode(60, 0, 2, 0, 3, 0, 0, 0, 1), 240);
        fails("behind the last row's END a byte", Made.rowCode(60, 0, 2, 0, 3, 0, 0, 1, 9, 0, 1), ROOM, 6);
    }

    private static void roomRowEnd() {
        checks.sentence("or 0 and 0 would end, a row that does not go wholly into 240");
        opens("the last row of 60", Made.rowCode(60, 0, 2, 0, 3, 0, 0, 0, 1), 240);
        fails("the one behind it", Made.rowCode(60, 0, 2, 0, 3, 0, 0, 0, 0, 0, 1), ROOM, 6);
        opens("the last row of 1", Made.rowCode(1, 0, 2, 0, 239, 0, 0, 0, 1), 240);
        fails("the one behind it", Made.rowCode(1, 0, 2, 0, 240, 0, 0, 0, 1), ROOM, 4);
        opens("the last whole row of 7", Made.rowCode(7, 0, 2, 0, 33, 0, 0, 0, 1), 238);
        fails("the row of 7 to 245", Made.rowCode(7, 0, 2, 0, 34, 0, 0, 0, 1), ROOM, 4);
    }

    private static void roomGoingOn() {
        checks.sentence("going on by x and y puts nothing");
        checks.dueOpened("to the first row that has no room", Made.rowCode(60, 0, 2, 0, 4, 0, 1), "");
        checks.dueOpened("as far as it goes", Made.rowCode(60, 0, 2, 60, 255, 0, 2, 0, 255, 0, 1), "");
        checks.dueOpened("behind a row", Made.rowCode(3, 3, 9, 0, 2, 0, 255, 0, 1), "9 9 9");
        checks.dueOpened("in a row behind all", Made.rowCode(3, 3, 9, 0, 0, 0, 2, 1, 255, 0, 2, 2, 0, 0, 1), "9 9 9");
        checks.dueOpened("into the next row", Made.rowCode(3, 3, 9, 0, 0, 0, 2, 3, 0, 0, 1), "9 9 9");
    }

    private static void behind() {
        checks.sentence("5 BEHIND: there is more behind END (its place is that)");
        fails("one byte", Made.code(0, 0, 0, 9), BEHIND, 2);
        fails("M", Made.code(0, 0, 0, 0), BEHIND, 2);
        fails("a whole END", Made.code(0, 0, 0, 0, 0), BEHIND, 2);
        fails("behind a UNIT", Made.code(0, 9, 0, 0, 9), BEHIND, 3);
        fails("with UNITS of four", Made.with(Made.code(0, 9, 9, 9, 9, 0, 0, 9), 0, 4), BEHIND, 6);
        checks.dueOpened("nothing", Made.code(0, 9, 0, 0), "9");
        fails("rows, one byte", Made.rowCode(3, 0, 1, 9), BEHIND, 2);
        fails("rows, a whole END", Made.rowCode(3, 3, 9, 0, 0, 0, 1, 0, 1), BEHIND, 6);
        checks.dueOpened("rows, nothing", Made.rowCode(3, 3, 9, 0, 1), "9 9 9");
    }

    private static void place() {
        checks.sentence("The place of a FAULT is that at which its PIECE begins");
        fails("the first PIECE", Made.code(0, 0, 3), LACKS, 0);
        fails("behind a UNIT of two", Made.with(Made.code(0, 9, 9, 9), 0, 2), LACKS, 2);
        fails("behind a run", Made.code(0, 0, 3, 9, 0), LACKS, 3);
        fails("behind nothing", Made.code(1, 128, 128, 5, 9), LACKS, 2);
        fails("behind going on", Made.rowCode(3, 0, 2, 0, 1, 4, 9, 0, 1), PAST, 4);
        fails("behind three bytes and one", Made.rowCode(3, 0, 3, 1, 2, 3, 9, 1, 9, 0, 1), PAST, 6);
        RunForms x = Made.rows(1);
        x.repeat(240, 9);
        x.pack(0);
        x.code(5);
        fails("far behind", x, BEHIND, 962);
    }

    private static void goingOnPast() {
        checks.sentence("In FORM 2 going on by x beyond W is PAST, too");
        checks.dueOpened("to W", Made.rowCode(3, 1, 9, 0, 2, 2, 0, 0, 1), "9 0 0");
        fails("beyond W", Made.rowCode(3, 1, 9, 0, 2, 3, 0, 0, 1), PAST, 2);
        checks.dueOpened("from the beginning to W", Made.rowCode(3, 0, 2, 3, 0, 0, 0, 0, 1), "0 0 0");
        fails("from the beginning beyond W", Made.rowCode(3, 0, 2, 4, 0, 0, 1), PAST, 0);
        fails("beyond W in a later row", Made.rowCode(3, 1, 9, 0, 2, 3, 1, 0, 1), PAST, 2);
        fails("by 255", Made.rowCode(60, 0, 2, 255, 0, 0, 1), PAST, 0);
        checks.dueOpened("to 60", Made.rowCode(60, 0, 2, 60, 0, 0, 1), "");
        fails("to 61", Made.rowCode(60, 0, 2, 61, 0, 0, 1), PAST, 0);
        checks.dueOpened("by nothing at W", Made.rowCode(3, 3, 9, 0, 2, 0, 0, 0, 1), "9 9 9");
        fails("by one at W", Made.rowCode(3, 3, 9, 0, 2, 1, 0, 0, 1), PAST, 2);
    }

    private static void howManyRows() {
        checks.sentence("there are as many rows as the last one in which a byte was put, or that 0 and 0 ended, makes");
        checks.dueOpened("none", Made.rowCode(2, 0, 1), "");
        checks.dueOpened("a byte put", Made.rowCode(2, 1, 9, 0, 1), "9 0");
        checks.dueOpened("a byte put, a row ended", Made.rowCode(2, 1, 9, 0, 0, 0, 1), "9 0");
        checks.dueOpened("a row ended", Made.rowCode(2, 0, 0, 0, 1), "0 0");
        checks.dueOpened("a 0 put", Made.rowCode(2, 0, 2, 0, 1, 1, 0, 0, 1), "0 0 0 0");
        checks.dueOpened("a later row ended", Made.rowCode(2, 0, 2, 0, 2, 0, 0, 0, 1), "0 0 0 0 0 0");
        checks.dueOpened("gone on behind them", Made.rowCode(2, 1, 9, 0, 2, 0, 2, 0, 1), "9 0");
        checks.dueOpened("bytes put", Made.rowCode(3, 0, 2, 0, 1, 0, 3, 1, 2, 3, 9, 0, 1), "0 0 0 1 2 3");
    }

    // ---- means

    private static void fails(String what, RunForms x, int fault, int place) {
        checks.dueFault(what, x, fault, place);
    }

    private static void opens(String what, RunForms x, int bytes) {
        due(what, x.open(), bytes);
        due(what + ", no fault", x.fault(), 0);
        due(what + ", SOURCE", x.told(1), bytes);
    }

    private static void due(String what, long got, long want) {
        checks.due(what, got, want);
    }
}
