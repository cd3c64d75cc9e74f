/** 'Terms', part 1 FORMS: a test for each sentence that names a boundary case. */
public final class FormsTest {
    private static final int STATE = -3;
    private static final RunChecks checks = new RunChecks("FormsTest");

    public static void main(String[] args) {
        markedUnit();
        markedRun();
        markedEnd();
        signedThemselves();
        signedRun();
        signedNothing();
        signedEnd();
        wholeRows();
        rowRun();
        rowEnd();
        rowsEnd();
        goingOn();
        rowBytes();
        checks.end();
    }

    // ---- FORM 0

    private static void markedUnit() {
        checks.sentence("a byte that is not M begins a UNIT, which stands for itself");
        opens("all around M", marked(1, 5, 4, 6, 0, 255, 5, 0), "4 6 0 255");
        opens("behind its first byte M is no mark", marked(2, 5, 4, 5, 6, 5, 5, 0), "4 5 6 5");
        opens("nor in four bytes", marked(4, 5, 4, 5, 5, 5, 5, 0), "4 5 5 5");
        opens("M 255", marked(1, 255, 254, 0, 255, 0), "254 0");
    }

    private static void markedRun() {
        checks.sentence("M and a count 1 .. 255: behind it a UNIT that stands so many times");
        opens("once", marked(1, 5, 5, 1, 9, 5, 0), "9");
        opens("twice", marked(1, 5, 5, 2, 9, 5, 0), "9 9");
        opens("127 times", marked(1, 5, 5, 127, 9, 5, 0), Made.times(127, "9"));
        opens("128 times", marked(1, 5, 5, 128, 9, 5, 0), Made.times(128, "9"));
        opens("240 times", marked(1, 5, 5, 240, 9, 5, 0), Made.times(240, "9"));
        opens("its UNIT may be M", marked(1, 5, 5, 3, 5, 5, 0), "5 5 5");
        opens("its UNIT may be M and 0", marked(2, 5, 5, 2, 5, 0, 5, 0), "5 0 5 0");
        opens("its count may be M", marked(1, 5, 5, 5, 9, 5, 0), "9 9 9 9 9");
        opens("120 times two bytes", marked(2, 5, 5, 120, 8, 9, 5, 0), Made.times(120, "8 9"));
        opens("60 times four bytes", marked(4, 5, 5, 60, 6, 7, 8, 9, 5, 0), Made.times(60, "6 7 8 9"));
        checks.duePlain("255 times", marked(1, 5, 5, 255, 9, 5, 0), 256, 0, 255, Made.times(255, "9") + " 0");
    }

    private static void markedEnd() {
        checks.sentence("M and 0: END");
        for (int unitBytes = 1; unitBytes <= 4; unitBytes *= 2) {
            opens("at once", marked(unitBytes, 5, 5, 0), "");
            opens("M 0", marked(unitBytes, 0, 0, 0), "");
            opens("M 255", marked(unitBytes, 255, 255, 0), "");
        }
    }

    private static RunForms marked(int unitBytes, int mark, int... code) {
        return Made.with(Made.code(0, code), 0, unitBytes, 2, mark);
    }

    // ---- FORM 1

    private static void signedThemselves() {
        checks.sentence("0 .. 127: c + 1 UNITS behind it stand for themselves");
        opens("0", signed(1, 0, 9), "9");
        opens("1", signed(1, 1, 8, 9), "8 9");
        RunForms x = signed(1, 127);
        Made.codes(x, Made.upFrom(100, 128));
        opens("127", x, Made.text(Made.upFrom(100, 128)));
        opens("0, of four bytes", signed(4, 0, 1, 2, 3, 4), "1 2 3 4");
        opens("1, of two bytes", signed(2, 1, 1, 2, 3, 4), "1 2 3 4");
        x = signed(2, 119);
        Made.codes(x, Made.upFrom(0, 240));
        opens("119, of two bytes", x, Made.text(Made.upFrom(0, 240)));
    }

    private static void signedRun() {
        checks.sentence("-127 .. -1: a UNIT behind it stands 1 - c times");
        opens("-1", signed(1, 255, 9), "9 9");
        opens("-2", signed(1, 254, 9), "9 9 9");
        opens("-126", signed(1, 130, 9), Made.times(127, "9"));
        opens("-127", signed(1, 129, 9), Made.times(128, "9"));
        opens("-119, of two bytes", signed(2, 137, 8, 9), Made.times(120, "8 9"));
        opens("-59, of four bytes", signed(4, 197, 6, 7, 8, 9), Made.times(60, "6 7 8 9"));
    }

    private static void signedNothing() {
        checks.sentence("-128: nothing");
        opens("alone", signed(1, 128), "");
        opens("twice", signed(4, 128, 128), "");
        opens("ahead, between and behind", signed(2, 128, 0, 1, 2, 128, 255, 3, 4, 128), "1 2 3 4 3 4");
    }

    private static void signedEnd() {
        checks.sentence("CODE's end is the END");
        opens("no CODE", signed(1), "");
        opens("behind those by themselves", signed(1, 0, 9), "9");
        opens("behind a run", signed(1, 255, 9), "9 9");
        checks.duePlain("copied", signed(1), 0, 0, 0, "");
    }

    private static RunForms signed(int unitBytes, int... code) {
        return Made.with(Made.code(1, code), 0, unitBytes);
    }

    // ---- FORM 2

    private static void wholeRows() {
        checks.sentence("SOURCE is rows of W bytes, whole ones");
        RunForms x = Made.rows(3, 1, 1);
        due("one lacks", x.pack(1), STATE);
        x.octet(1);
        due("one row", x.pack(1), 6);
        x.octet(1);
        due("one more", x.pack(1), STATE);
        opens("a byte makes a whole row", Made.rowCode(3, 1, 9, 0, 1), "9 0 0");
        opens("of 60", Made.rowCode(60, 1, 9, 0, 1), "9 " + Made.times(59, "0"));
        opens("of 1", Made.rowCode(1, 1, 9, 0, 1), "9");
    }

    private static void rowRun() {
        checks.sentence("n 1 .. 255: b stands n times");
        opens("once", Made.rowCode(3, 1, 9, 0, 1), "9 0 0");
        opens("W times", Made.rowCode(3, 3, 9, 0, 1), "9 9 9");
        opens("0 stands, too", Made.rowCode(3, 2, 0, 1, 9, 0, 1), "0 0 9");
        opens("60 times", Made.rowCode(60, 60, 255, 0, 1), Made.times(60, "255"));
        checks.duePlain("127 times", Made.rowCode(3, 127, 9, 0, 1), 127, 0, 127, Made.times(127, "9"));
        checks.duePlain("128 times", Made.rowCode(3, 128, 9, 0, 1), 128, 0, 128, Made.times(128, "9"));
        checks.duePlain("255 times", Made.rowCode(3, 255, 9, 0, 1), 255, 0, 255, Made.times(255, "9"));
    }

    private static void rowEnd() {
        checks.sentence("0 and 0: the row ends (what is left of it is 0), the next one begins");
        opens("nothing in it", Made.rowCode(3, 0, 0, 0, 1), "0 0 0");
        opens("one left", Made.rowCode(3, 2, 9, 0, 0, 0, 1), "9 9 0");
        opens("none left", Made.rowCode(3, 3, 9, 0, 0, 0, 1), "9 9 9");
        opens("the next one", Made.rowCode(3, 3, 9, 0, 0, 3, 8, 0, 1), "9 9 9 8 8 8");
        opens("two that are 0", Made.rowCode(3, 0, 0, 0, 0, 1, 9, 0, 1), "0 0 0 0 0 0 9 0 0");
    }

    private static void rowsEnd() {
        checks.sentence("0 and 1: END");
        opens("at once", Made.rowCode(3, 0, 1), "");
        opens("within a row", Made.rowCode(3, 1, 9, 0, 1), "9 0 0");
        opens("behind a row", Made.rowCode(3, 1, 9, 0, 0, 0, 1), "9 0 0");
    }

    private static void goingOn() {
        checks.sentence("it goes on x bytes further in the row, y rows later (all between is 0)");
        opens("by nothing", Made.rowCode(3, 1, 9, 0, 2, 0, 0, 1, 8, 0, 1), "9 8 0");
        opens("in the row", Made.rowCode(3, 1, 9, 0, 2, 1, 0, 1, 8, 0, 1), "9 0 8");
        opens("by rows", Made.rowCode(3, 1, 9, 0, 2, 0, 2, 1, 8, 0, 1), "9 0 0 0 0 0 0 8 0");
        opens("by both", Made.rowCode(3, 1, 9, 0, 2, 1, 1, 1, 8, 0, 1), "9 0 0 0 0 8");
        opens("at first", Made.rowCode(3, 0, 2, 2, 0, 1, 8, 0, 1), "0 0 8");
        opens("twice", Made.rowCode(3, 0, 2, 1, 0, 0, 2, 1, 1, 1, 8, 0, 1), "0 0 0 0 0 8");
        opens("twice by rows", Made.rowCode(2, 0, 2, 0, 1, 0, 2, 0, 1, 1, 8, 0, 1), "0 0 0 0 8 0");
        opens("by rows behind a row's END", Made.rowCode(2, 0, 0, 0, 2, 0, 1, 1, 8, 0, 1), "0 0 0 0 8 0");
        opens("a row's END goes to its beginning", Made.rowCode(3, 0, 2, 2, 0, 0, 0, 1, 8, 0, 1), "0 0 0 8 0 0");
        RunForms x = Made.rowCode(1, 0, 2, 0, 239, 1, 8, 0, 1);
        due("239 rows", x.open(), 240);
        due("the last", x.at(0, 239), 8);
        due("all between", x.at(0, 238), 0);
        opens("what an earlier open() put is gone", reopened(), "0 0 7");
    }

    private static RunForms reopened() {
        RunForms x = Made.rowCode(3, 3, 9, 0, 1);
        x.open();
        x.cut(1, 0);
        Made.codes(x, 0, 2, 2, 0, 1, 7, 0, 1);
        return x;
    }

    private static void rowBytes() {
        checks.sentence("0 and n above 2: n bytes behind them stand for themselves, and if n is odd a byte more "
                + "that stands for nothing");
        opens("three and one", Made.rowCode(4, 0, 3, 1, 2, 3, 99, 0, 1), "1 2 3 0");
        opens("what is behind them", Made.rowCode(4, 0, 3, 1, 2, 3, 99, 1, 4, 0, 1), "1 2 3 4");
        opens("four", Made.rowCode(4, 0, 4, 1, 2, 3, 4, 0, 1), "1 2 3 4");
        opens("behind others", Made.rowCode(5, 2, 7, 0, 3, 1, 2, 3, 99, 0, 1), "7 7 1 2 3");
        opens("59", bytesOf(60, 59), Made.text(Made.upFrom(1, 59)) + " 0");
        opens("60", bytesOf(60, 60), Made.text(Made.upFrom(1, 60)));
        checks.duePlain("127", bytesOf(3, 127), 127, 0, 127, Made.text(Made.upFrom(1, 127)));
        RunForms x = bytesOf(3, 255);
        due("255 copied", x.plain(255), 0);
        due("all put", x.told(4), 255);
        due("the last", x.out(254), -1);
    }

    private static RunForms bytesOf(int width, int many) {
        RunForms x = Made.rowCode(width, 0, many);
        Made.codes(x, Made.upFrom(1, many));
        if (many % 2 == 1) {
            x.code(99);
        }
        Made.codes(x, 0, 1);
        return x;
    }

    private static void opens(String what, RunForms x, String source) {
        checks.dueOpened(what, x, source);
    }

    private static void due(String what, long got, long want) {
        checks.due(what, got, want);
    }
}
