/** 'Terms', part 4 PLAIN: a test for each sentence that names a boundary case. */
public final class PlainTest {
    private static final int FINE = 0, INDEX = 1, SIZE = 2;
    private static final RunChecks checks = new RunChecks("PlainTest");

    public static void main(String[] args) {
        allZero();
        ownLength();
        notAhead();
        notWidth();
        not240();
        notDifferences();
        notBehindEnd();
        unitsByOneCopy();
        allByOneCopy();
        runUnitByUnit();
        rowRunByteByByte();
        placeInRow();
        endsAtEnd();
        endsWithCode();
        readsNothing();
        writesNothing();
        copyGoesWholly();
        size();
        staysPut();
        checks.end();
    }

    private static void allZero() {
        checks.sentence("an array of n bytes, all 0");
        for (int form = 0; form < 3; form++) {
            RunForms x = Made.code(form);
            copies("end alone", ended(x), 5, FINE, 0, "0 0 0 0 0");
            copies("none", x, 0, FINE, 0, "");
            copies("one", x, 1, FINE, 0, "0");
            copies("400", x, 400, FINE, 0, Made.times(400, "0"));
        }
        RunForms x = Made.code(0, 9, 9, 9, 0, 0);
        copies("put", x, 4, FINE, 3, "9 9 9 0");
        x.cut(1, 0);
        copies("what was put in an earlier one is gone", ended(x), 4, FINE, 0, "0 0 0 0");
    }

    private static void ownLength() {
        checks.sentence("CODE, as an array of its own length");
        RunForms x = Made.code(0, 7, 0, 0);
        x.cut(1, 2);
        copies("half an END was cut", x, 3, INDEX, 1, "7 0 0");
        x.cut(1, 1);
        copies("END was cut", x, 3, INDEX, 1, "7 0 0");
        x.cut(1, 0);
        copies("all was cut", x, 3, INDEX, 0, "0 0 0");
        x = Made.code(1, 2, 7, 8, 9);
        x.cut(1, 3);
        copies("one of three was cut", x, 3, INDEX, 0, "0 0 0");
        x = Made.rowCode(3, 0, 3, 7, 8, 9, 0, 0, 1);
        x.cut(1, 4);
        copies("one of three bytes was cut", x, 3, INDEX, 0, "0 0 0");
        x = Made.code(1, 1, 7, 8, 1, 7, 8);
        Made.octets(x, 9, 9, 9);
        x.pack(0);
        copies("a longer CODE was there before", x, 4, FINE, 3, "9 9 9 0");
    }

    private static void notAhead() {
        checks.sentence("is opened without looking at it ahead");
        copies("no END", Made.code(0, 7, 0, 2, 8), 4, INDEX, 3, "7 8 8 0");
        copies("a PIECE that lacks", Made.code(0, 7, 0, 2), 4, INDEX, 1, "7 0 0 0");
        copies("signed, a PIECE that lacks", Made.code(1, 0, 7, 5, 8), 4, INDEX, 1, "7 0 0 0");
        copies("a row that lacks", Made.rowCode(3, 2, 7, 0, 3, 8), 4, INDEX, 2, "7 7 0 0");
    }

    private static void notWidth() {
        checks.sentence("without looking at it ahead, W");
        copies("a run beyond W", Made.rowCode(2, 3, 9, 0, 1), 4, FINE, 3, "9 9 9 0");
        copies("bytes beyond W", Made.rowCode(1, 0, 3, 7, 8, 9, 0, 0, 1), 4, FINE, 3, "7 8 9 0");
        copies("going on beyond W", Made.rowCode(1, 0, 2, 2, 0, 1, 9, 0, 1), 4, FINE, 3, "0 0 9 0");
        copies("no whole rows", Made.rowCode(3, 1, 9, 0, 1), 1, FINE, 1, "9");
    }

    private static void not240() {
        checks.sentence("W, 240");
        copies("241 of a run", Made.code(0, 0, 241, 9, 0, 0), 241, FINE, 241, Made.times(241, "9"));
        RunForms x = Made.code(0, 0, 255, 9, 0, 145, 8, 0, 0);
        due("400 of two runs", x.plain(400), FINE);
        due("put to", x.told(4), 400);
        due("the last", x.out(399), 8);
        due("not in 399", x.plain(399), INDEX);
        due("put to", x.told(4), 399);
        x = Made.code(1, 129, 9, 129, 8);
        due("256 of two signed runs", x.plain(256), FINE);
        due("put to", x.told(4), 256);
        x = Made.rowCode(60, 0, 2, 39, 6, 1, 9, 0, 1);
        due("place 399 of rows", x.plain(400), FINE);
        due("put to", x.told(4), 400);
        due("its byte", x.out(399), 9);
    }

    private static void notDifferences() {
        checks.sentence("240, DIFFERENCES");
        copies("marked", Made.with(Made.code(0, 5, 6, 7, 0, 0), 3, 1), 3, FINE, 3, "5 6 7");
        copies("signed", Made.with(Made.code(1, 254, 5), 3, 1), 3, FINE, 3, "5 5 5");
        copies("of two bytes", Made.with(Made.code(1, 255, 0, 200), 0, 2, 3, 1), 4, FINE, 4, "0 -56 0 -56");
    }

    private static void notBehindEnd() {
        checks.sentence("or what is behind END");
        copies("marked, a byte", Made.code(0, 7, 0, 0, 8), 2, FINE, 1, "7 0");
        copies("marked, half a PIECE", Made.code(0, 7, 0, 0, 0), 2, FINE, 1, "7 0");
        copies("rows, a byte", Made.rowCode(3, 1, 7, 0, 1, 8), 2, FINE, 1, "7 0");
        copies("rows, a PIECE", Made.rowCode(3, 1, 7, 0, 1, 1, 8), 2, FINE, 1, "7 0");
    }

    private static void unitsByOneCopy() {
        checks.sentence("UNITS by themselves, rows of bytes and UNITS of a run are copied each by one copy");
        copies("UNIT by UNIT", Made.code(0, 7, 8, 0, 0), 1, INDEX, 1, "7");
        RunForms x = Made.with(Made.code(0, 1, 2, 3, 4, 0, 0), 0, 2);
        copies("two UNITS of two", x, 4, FINE, 4, "1 2 3 4");
        copies("the second not wholly", x, 3, INDEX, 2, "1 2 0");
        copies("the first not wholly", x, 1, INDEX, 0, "0");
        x = Made.with(Made.code(0, 1, 2, 3, 4, 5, 6, 7, 8, 0, 0), 0, 4);
        copies("two UNITS of four", x, 8, FINE, 8, "1 2 3 4 5 6 7 8");
        copies("the second of four not wholly", x, 7, INDEX, 4, "1 2 3 4 0 0 0");
        copies("the first of four not wholly", x, 3, INDEX, 0, "0 0 0");
        copies("not wholly read", Made.with(Made.code(0, 1, 2, 3, 4, 5, 6, 7), 0, 4), 8, INDEX, 4, "1 2 3 4 0 0 0 0");
    }

    private static void allByOneCopy() {
        checks.sentence("in FORM 1, 2 all of those by themselves by one");
        RunForms x = Made.code(1, 0, 6, 2, 7, 8, 9);
        copies("signed, all", x, 4, FINE, 4, "6 7 8 9");
        copies("signed, one has no room", x, 3, INDEX, 1, "6 0 0");
        copies("signed, one is not there", Made.code(1, 0, 6, 2, 7, 8), 4, INDEX, 1, "6 0 0 0");
        x = Made.with(Made.code(1, 1, 1, 2, 3, 4), 0, 2);
        copies("signed, two of two", x, 4, FINE, 4, "1 2 3 4");
        copies("signed, the second has no room", x, 3, INDEX, 0, "0 0 0");
        copies("signed, none has room", x, 0, INDEX, 0, "");
        x = Made.rowCode(8, 1, 6, 0, 4, 7, 8, 9, 10, 0, 1);
        copies("bytes, all", x, 5, FINE, 5, "6 7 8 9 10");
        copies("bytes, one has no room", x, 4, INDEX, 1, "6 0 0 0");
        copies("bytes, one is not there", Made.rowCode(8, 1, 6, 0, 4, 7, 8, 9), 5, INDEX, 1, "6 0 0 0 0");
        x = Made.rowCode(8, 0, 3, 7, 8, 9, 99, 0, 1);
        copies("the byte more needs no room", x, 3, FINE, 3, "7 8 9");
        copies("the byte more is not put", x, 4, FINE, 3, "7 8 9 0");
        x = Made.rowCode(8, 0, 3, 7, 8, 9);
        copies("the byte more is not there, nor END", x, 4, INDEX, 3, "7 8 9 0");
    }

    private static void runUnitByUnit() {
        checks.sentence("of a run UNIT by UNIT");
        copies("marked", Made.code(0, 0, 5, 9, 0, 0), 3, INDEX, 3, "9 9 9");
        RunForms x = Made.with(Made.code(0, 0, 3, 1, 2, 0, 0), 0, 2);
        copies("marked, all of two", x, 6, FINE, 6, "1 2 1 2 1 2");
        copies("marked, the last not wholly", x, 5, INDEX, 4, "1 2 1 2 0");
        copies("marked, the last not at all", x, 4, INDEX, 4, "1 2 1 2");
        x = Made.with(Made.code(0, 0, 2, 1, 2, 3, 4, 0, 0), 0, 4);
        copies("marked, the last of four not wholly", x, 7, INDEX, 4, "1 2 3 4 0 0 0");
        copies("signed", Made.code(1, 252, 9), 3, INDEX, 3, "9 9 9");
        x = Made.with(Made.code(1, 254, 1, 2), 0, 2);
        copies("signed, all of two", x, 6, FINE, 6, "1 2 1 2 1 2");
        copies("signed, the last not wholly", x, 5, INDEX, 4, "1 2 1 2 0");
        copies("not read, nothing put", Made.with(Made.code(0, 0, 3, 1), 0, 2), 6, INDEX, 0, "0 0 0 0 0 0");
    }

    private static void rowRunByteByByte() {
        checks.sentence("in FORM 2 bytes of a run one by one");
        RunForms x = Made.rowCode(8, 5, 9, 0, 1);
        copies("all", x, 5, FINE, 5, "9 9 9 9 9");
        copies("all but one", x, 4, INDEX, 4, "9 9 9 9");
        copies("one", x, 1, INDEX, 1, "9");
        copies("none", x, 0, INDEX, 0, "");
        copies("255 and no room", Made.rowCode(8, 255, 9, 0, 1), 254, INDEX, 254, Made.times(254, "9"));
    }

    private static void placeInRow() {
        checks.sentence("the place of byte x in row y is y W + x, whatever x is");
        RunForms x = Made.rowCode(3, 5, 1, 0, 0, 1, 2, 0, 1);
        copies("a row put over what is beyond W", x, 6, FINE, 5, "1 1 1 2 1 0");
        x = Made.rowCode(3, 0, 4, 1, 2, 3, 4, 0, 0, 0, 3, 5, 6, 7, 0, 0, 1);
        copies("bytes put over what is beyond W", x, 7, FINE, 6, "1 2 3 5 6 7 0");
        copies("x beyond W", Made.rowCode(3, 1, 7, 0, 2, 5, 0, 1, 8, 0, 1), 7, FINE, 7, "7 0 0 0 0 0 8");
        copies("x beyond W, a row later", Made.rowCode(3, 0, 2, 4, 1, 1, 8, 0, 1), 8, FINE, 8, "0 0 0 0 0 0 0 8");
        copies("rows later, twice", Made.rowCode(2, 0, 2, 1, 1, 0, 2, 0, 1, 1, 8, 0, 1), 6, FINE, 6, "0 0 0 0 0 8");
        copies("a row's END, then a row later", Made.rowCode(2, 1, 7, 0, 0, 0, 2, 1, 1, 1, 8, 0, 1), 6, FINE, 6,
                "7 0 0 0 0 8");
        copies("rows of 1", Made.rowCode(1, 0, 2, 0, 3, 1, 8, 0, 1), 4, FINE, 4, "0 0 0 8");
        copies("a 0 that is put", Made.rowCode(3, 2, 9, 0, 2, 1, 0, 2, 0, 0, 0, 1, 0, 0, 1), 6, FINE, 5,
                "9 9 0 0 0 0");
        x = Made.rowCode(60, 0, 2, 39, 6, 1, 9, 0, 1);
        due("y 6, x 39 of rows of 60", x.plain(400), FINE);
        due("is 399", x.out(399), 9);
        x = Made.rowCode(60, 0, 2, 40, 6, 1, 9, 0, 1);
        due("x 40 is 400", x.plain(400), INDEX);
        due("not put", x.told(4), 0);
        copies("as far as it goes", Made.rowCode(60, 0, 2, 255, 255, 0, 2, 255, 255, 0, 1), 1, FINE, 0, "0");
        copies("a byte there", Made.rowCode(60, 0, 2, 255, 255, 0, 2, 255, 255, 1, 9, 0, 1), 1, INDEX, 0, "0");
        copies("row ENDs beyond all", Made.rowCode(60, 0, 0, 0, 0, 0, 1), 1, FINE, 0, "0");
    }

    private static void endsAtEnd() {
        checks.sentence("It ends at END");
        copies("marked", Made.code(0, 0, 0), 0, FINE, 0, "");
        copies("marked, behind a UNIT", Made.code(0, 7, 0, 0), 1, FINE, 1, "7");
        copies("marked, no END", Made.code(0, 7), 1, INDEX, 1, "7");
        copies("marked, nothing", Made.code(0), 1, INDEX, 0, "0");
        copies("M 255", Made.with(Made.code(0, 0, 0, 255, 0), 2, 255), 3, FINE, 2, "0 0 0");
        copies("rows", Made.rowCode(3, 0, 1), 0, FINE, 0, "");
        copies("rows, behind a run", Made.rowCode(3, 1, 7, 0, 1), 1, FINE, 1, "7");
        copies("rows, no END", Made.rowCode(3, 1, 7), 1, INDEX, 1, "7");
        copies("rows, nothing", Made.rowCode(3), 1, INDEX, 0, "0");
    }

    private static void endsWithCode() {
        checks.sentence("in FORM 1 with CODE");
        copies("nothing", Made.code(1), 0, FINE, 0, "");
        copies("behind one by itself", Made.code(1, 0, 7), 1, FINE, 1, "7");
        copies("behind a run", Made.code(1, 255, 7), 2, FINE, 2, "7 7");
        copies("behind nothing", Made.code(1, 0, 7, 128), 1, FINE, 1, "7");
        copies("nothing, then a run", Made.code(1, 128, 255, 7, 128, 0, 8), 4, FINE, 3, "7 7 8 0");
        copies("nothing stands for nothing", Made.code(1, 128, 128), 0, FINE, 0, "");
    }

    private static void readsNothing() {
        checks.sentence("1 INDEX (read");
        copies("M without a count", Made.code(0, 7, 0), 9, INDEX, 1, "7 0 0 0 0 0 0 0 0");
        copies("a count without a UNIT", Made.code(0, 7, 0, 1), 9, INDEX, 1, "7 0 0 0 0 0 0 0 0");
        copies("a UNIT of two, half", Made.with(Made.code(0, 7, 7, 8), 0, 2), 4, INDEX, 2, "7 7 0 0");
        copies("c alone", Made.code(1, 0, 7, 0), 3, INDEX, 1, "7 0 0");
        copies("c of a run alone", Made.code(1, 0, 7, 255), 3, INDEX, 1, "7 0 0");
        copies("a run of UNITS of four, three", Made.with(Made.code(1, 255, 7, 7, 7), 0, 4), 4, INDEX, 0, "0 0 0 0");
        copies("n alone", Made.rowCode(3, 1, 7, 2), 3, INDEX, 1, "7 0 0");
        copies("0 alone", Made.rowCode(3, 1, 7, 0), 3, INDEX, 1, "7 0 0");
        copies("going on without x", Made.rowCode(3, 1, 7, 0, 2), 3, INDEX, 1, "7 0 0");
        copies("going on without y", Made.rowCode(3, 1, 7, 0, 2, 0), 3, INDEX, 1, "7 0 0");
        copies("bytes, none", Made.rowCode(3, 1, 7, 0, 3), 4, INDEX, 1, "7 0 0 0");
        copies("bytes, two of three", Made.rowCode(3, 1, 7, 0, 3, 8, 9), 4, INDEX, 1, "7 0 0 0");
    }

    private static void writesNothing() {
        checks.sentence("or written where there is nothing");
        copies("a UNIT into none", Made.code(0, 7, 0, 0), 0, INDEX, 0, "");
        copies("a UNIT into one", Made.code(0, 7, 0, 0), 1, FINE, 1, "7");
        copies("a UNIT behind all", Made.code(0, 7, 8, 0, 0), 1, INDEX, 1, "7");
        copies("signed into none", Made.code(1, 0, 7), 0, INDEX, 0, "");
        copies("signed into one", Made.code(1, 0, 7), 1, FINE, 1, "7");
        copies("signed behind all", Made.code(1, 0, 7, 0, 8), 1, INDEX, 1, "7");
        copies("a row into none", Made.rowCode(3, 1, 7, 0, 1), 0, INDEX, 0, "");
        copies("the last of a row", Made.rowCode(3, 0, 2, 2, 0, 1, 7, 0, 1), 3, FINE, 3, "0 0 7");
        copies("behind all of a row", Made.rowCode(3, 0, 2, 3, 0, 1, 7, 0, 1), 3, INDEX, 0, "0 0 0");
        copies("the next row", Made.rowCode(3, 0, 0, 1, 7, 0, 1), 3, INDEX, 0, "0 0 0");
        copies("bytes far behind", Made.rowCode(60, 0, 2, 0, 255, 0, 3, 7, 8, 9, 0, 0, 1), 2, INDEX, 0, "0 0");
    }

    private static void copyGoesWholly() {
        checks.sentence("a copy that does not go wholly in does nothing");
        for (int room = 0; room < 4; room++) {
            String none = Made.times(room, "0");
            copies("a UNIT", Made.with(Made.code(0, 6, 7, 8, 9, 0, 0), 0, 4), room, INDEX, 0, none);
            copies("a run's UNIT", Made.with(Made.code(0, 0, 1, 6, 7, 8, 9, 0, 0), 0, 4), room, INDEX, 0, none);
            copies("signed UNITS", Made.code(1, 3, 6, 7, 8, 9), room, INDEX, 0, none);
            copies("a signed run's UNIT", Made.with(Made.code(1, 255, 6, 7, 8, 9), 0, 4), room, INDEX, 0, none);
            copies("bytes", Made.rowCode(8, 0, 4, 6, 7, 8, 9, 0, 1), room, INDEX, 0, none);
        }
    }

    private static void size() {
        checks.sentence("2 SIZE (n below 0)");
        for (int form = 0; form < 3; form++) {
            copies("-1", ended(Made.code(form)), -1, SIZE, 0, "");
            copies("far below", ended(Made.code(form)), Integer.MIN_VALUE, SIZE, 0, "");
            copies("0 is not", ended(Made.code(form)), 0, FINE, 0, "");
            copies("ahead of INDEX", Made.code(form, 0), -1, SIZE, 0, "");
        }
        RunForms x = Made.code(0, 7, 0, 0);
        copies("one", x, 1, FINE, 1, "7");
        copies("then none", x, -1, SIZE, 0, "");
        copies("then one again", x, 1, FINE, 1, "7");
    }

    private static void staysPut() {
        checks.sentence("What was put before stays");
        copies("UNITS", Made.code(0, 7, 8, 9), 4, INDEX, 3, "7 8 9 0");
        copies("a run in part", Made.code(0, 0, 9, 7, 0, 0), 4, INDEX, 4, "7 7 7 7");
        copies("signed UNITS", Made.code(1, 1, 7, 8, 1, 9), 4, INDEX, 2, "7 8 0 0");
        copies("a row", Made.rowCode(2, 2, 7, 0, 0, 2, 8, 0, 0, 1, 9, 0, 1), 4, INDEX, 4, "7 7 8 8");
        copies("the greatest place, not the last", Made.rowCode(2, 4, 7, 0, 0, 1, 8), 5, INDEX, 4, "7 7 8 7 0");
    }

    // ---- means

    /** CODE with an END behind it. */
    private static RunForms ended(RunForms x) {
        if (x.told(0) != 1) {
            Made.codes(x, 0, x.told(0) == 0 ? 0 : 1);
        }
        return x;
    }

    private static void copies(String what, RunForms x, int n, int why, int reach, String bytes) {
        checks.duePlain(what, x, n, why, reach, bytes);
    }

    private static void due(String what, long got, long want) {
        checks.due(what, got, want);
    }
}
