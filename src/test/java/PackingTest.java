/** 'Terms', part 2 PACKING: a test for each sentence that names a boundary case. */
public final class PackingTest {
    private static final int GREEDY = 0, FEWEST = 1;
    private static final RunChecks checks = new RunChecks("PackingTest");

    public static void main(String[] args) {
        markedUnit();
        markedRun();
        markedEnd();
        signedThemselves();
        signedRun();
        rowByRow();
        rowBytes();
        rowRun();
        rowEnd();
        rowsEnd();
        fewest();
        fewestEndFirst();
        fewestThemselvesFirst();
        fewestMoreFirst();
        greedyEnd();
        greedyLike();
        greedyMarkedRun();
        greedyMark();
        greedySignedRun();
        greedyRowRun();
        greedyMarkedUnit();
        greedySignedThemselves();
        greedyRowBytes();
        checks.end();
    }

    // ---- the PIECES

    private static void markedUnit() {
        checks.sentence("in FORM 0 a UNIT by itself (U; not if its first byte is M)");
        packs("it is not", marked(1, 5, 4), "4 5 0");
        packs("it is", marked(1, 5, 5), "5 1 5 5 0");
        packs("two bytes, it is not", marked(2, 5, 4, 5), "4 5 5 0");
        packs("two bytes, it is", marked(2, 5, 5, 4), "5 1 5 4 5 0");
        packs("four bytes, it is not", marked(4, 5, 4, 5, 5, 5), "4 5 5 5 5 0");
        packs("four bytes, it is", marked(4, 5, 5, 0, 0, 0), "5 1 5 0 0 0 5 0");
        packs("four bytes, a high one is", marked(4, 200, 200, 0, 0, 0), "200 1 200 0 0 0 200 0");
        packs("another is 0", marked(1, 5, 0), "0 5 0");
    }

    private static void markedRun() {
        checks.sentence("a run of 1 .. 255 like UNITS (2 + U); END behind all");
        packs("1", marked(1, 5, 5, 6), "5 1 5 6 5 0");
        packs("127", alike(0, 127), "0 127 9 0 0");
        packs("128", alike(0, 128), "0 128 9 0 0");
        packs("240", alike(0, 240), "0 240 9 0 0");
        packs("120 of two bytes", Made.with(alike(0, 240), 0, 2), "0 120 9 9 0 0");
        packs("60 of four bytes", Made.with(alike(0, 240), 0, 4), "0 60 9 9 9 9 0 0");
        packs("240 that are M", Made.with(alike(0, 240), 2, 9), "9 240 9 9 0");
    }

    private static void markedEnd() {
        checks.sentence("END behind all");
        packs("of nothing", marked(1, 0), "0 0");
        packs("M 255", marked(1, 255), "255 0");
        packs("two bytes", marked(2, 7), "7 0");
        packs("four bytes", marked(4, 7), "7 0");
        packs("behind M", marked(1, 7, 7), "7 1 7 7 0");
    }

    private static void signedThemselves() {
        checks.sentence("In FORM 1 1 .. 128 UNITS by themselves (1 and U for each)");
        packs("none", Made.source(1), "");
        packs("1", Made.source(1, 9), "0 9");
        packs("1 of two bytes", Made.with(Made.source(1, 9, 9), 0, 2), "0 9 9");
        packs("1 of four bytes", Made.with(Made.source(1, 9, 9, 9, 9), 0, 4), "0 9 9 9 9");
        packs("2", Made.source(1, 8, 9), "1 8 9");
        packs("127", Made.source(1, Made.upFrom(0, 127)), "126 " + Made.text(Made.upFrom(0, 127)));
        packs("128", Made.source(1, Made.upFrom(0, 128)), "127 " + Made.text(Made.upFrom(0, 128)));
        packs("129", Made.source(1, Made.upFrom(0, 129)), "127 " + Made.text(Made.upFrom(0, 128)) + " 0 128");
        packs("120 of two bytes", Made.with(Made.source(1, Made.upFrom(0, 240)), 0, 2),
                "119 " + Made.text(Made.upFrom(0, 240)));
    }

    private static void signedRun() {
        checks.sentence("a run of 2 .. 128 like UNITS (1 + U)");
        packs("2", alike(1, 2), "255 9");
        packs("2 of two bytes", Made.with(alike(1, 4), 0, 2), "255 9 9");
        packs("127", alike(1, 127), "130 9");
        packs("128", alike(1, 128), "129 9");
        packs("129, greedy", alike(1, 129), GREEDY, "129 9 0 9");
        packs("129, fewest", alike(1, 129), FEWEST, "0 9 129 9");
        packs("130", alike(1, 130), "129 9 255 9");
        packs("240", alike(1, 240), "129 9 145 9");
        packs("120 of two bytes", Made.with(alike(1, 240), 0, 2), "137 9 9");
    }

    private static void rowByRow() {
        checks.sentence("In FORM 2, row by row");
        packs("a run ends with its row", Made.rows(2, 5, 5, 5, 5), FEWEST, "2 5 0 0 2 5 0 0 0 1");
        packs("three like ones end with their row", Made.rows(3, 5, 5, 5, 5, 5, 5), "3 5 0 0 3 5 0 0 0 1");
        packs("like ones across rows, greedy", Made.rows(3, 1, 1, 2, 2, 2, 3), GREEDY,
                "0 3 1 1 2 0 0 0 0 3 2 2 3 0 0 0 0 1");
        packs("like ones across rows, fewest", Made.rows(3, 1, 1, 2, 2, 2, 3), FEWEST,
                "2 1 1 2 0 0 2 2 1 3 0 0 0 1");
        packs("0 at the end of a row and the next", Made.rows(2, 7, 0, 0, 7), "1 7 0 0 1 0 1 7 0 0 0 1");
        packs("bytes by themselves end with their row", Made.rows(3, 1, 2, 3, 4, 5, 6),
                "0 3 1 2 3 0 0 0 0 3 4 5 6 0 0 0 0 1");
    }

    private static void rowBytes() {
        checks.sentence("3 .. 255 bytes by themselves (2, one each, one more if odd; the byte more is 0)");
        packs("not 1", Made.rows(1, 9), "1 9 0 0 0 1");
        packs("not 2", Made.rows(2, 8, 9), "1 8 1 9 0 0 0 1");
        packs("3", Made.rows(3, 7, 8, 9), "0 3 7 8 9 0 0 0 0 1");
        packs("4", Made.rows(4, 6, 7, 8, 9), "0 4 6 7 8 9 0 0 0 1");
        packs("5", Made.rows(5, 5, 6, 7, 8, 9), "0 5 5 6 7 8 9 0 0 0 0 1");
        packs("59", Made.rows(59, Made.upFrom(1, 59)), "0 59 " + Made.text(Made.upFrom(1, 59)) + " 0 0 0 0 1");
        packs("60", Made.rows(60, Made.upFrom(1, 60)), "0 60 " + Made.text(Made.upFrom(1, 60)) + " 0 0 0 1");
    }

    private static void rowRun() {
        checks.sentence("a run of 1 .. 255 like bytes (2)");
        packs("1", Made.rows(1, 9), "1 9 0 0 0 1");
        packs("2", Made.rows(2, 9, 9), FEWEST, "2 9 0 0 0 1");
        packs("3", Made.rows(3, 9, 9, 9), "3 9 0 0 0 1");
        RunForms x = Made.rows(60);
        x.repeat(60, 9);
        packs("60", x, "60 9 0 0 0 1");
    }

    private static void rowEnd() {
        checks.sentence("at the end of each row 0 and 0 (2), which may stand as soon as all that is left of the row "
                + "is 0");
        packs("all is 0", Made.rows(3, 0, 0, 0), "0 0 0 1");
        packs("a row of one that is 0", Made.rows(1, 0), "0 0 0 1");
        packs("all but the first", Made.rows(3, 9, 0, 0), "1 9 0 0 0 1");
        packs("none", Made.rows(3, 9, 9, 9), "3 9 0 0 0 1");
        packs("all but the last, greedy", Made.rows(3, 0, 0, 9), GREEDY, "0 3 0 0 9 0 0 0 0 1");
        packs("all but the last, fewest", Made.rows(3, 0, 0, 9), FEWEST, "2 0 1 9 0 0 0 1");
        packs("the last alone", Made.rows(3, 0, 9, 0), "1 0 1 9 0 0 0 1");
        packs("two rows of 0", Made.rows(2, 0, 0, 0, 0), "0 0 0 0 0 1");
        RunForms x = Made.rows(60);
        x.repeat(240, 0);
        packs("240 that are 0", x, "0 0 0 0 0 0 0 0 0 1");
    }

    private static void rowsEnd() {
        checks.sentence("END behind all rows");
        packs("of none", Made.rows(3), "0 1");
        packs("of none, W 1", Made.rows(1), "0 1");
        packs("of none, W 60", Made.rows(60), "0 1");
        packs("of one", Made.rows(1, 1), "1 1 0 0 0 1");
    }

    // ---- FEWEST

    private static void fewest() {
        checks.sentence("FEWEST: that row of PIECES with the fewest bytes");
        packs("two like ones between others", Made.source(1, 1, 2, 2, 3), FEWEST, "3 1 2 2 3");
        packs("three like ones between others", Made.source(1, 1, 2, 2, 2, 3), FEWEST, "4 1 2 2 2 3");
        packs("four like ones between others", Made.source(1, 1, 2, 2, 2, 2, 3), FEWEST, "0 1 253 2 0 3");
        packs("two like UNITS of two bytes", Made.with(Made.source(1, 0, 1, 0, 2, 0, 2, 0, 3), 0, 2), FEWEST,
                "3 0 1 0 2 0 2 0 3");
        packs("three like UNITS of two bytes", Made.with(Made.source(1, 0, 1, 0, 2, 0, 2, 0, 2, 0, 3), 0, 2), FEWEST,
                "0 0 1 254 0 2 0 0 3");
        packs("runs of a row", Made.rows(5, 5, 5, 6, 6, 6), FEWEST, "2 5 3 6 0 0 0 1");
        packs("runs for three bytes", Made.rows(6, 1, 1, 2, 3, 3, 3), FEWEST, "2 1 1 2 3 3 0 0 0 1");
        packs("a run and three bytes", Made.rows(7, 5, 5, 5, 5, 1, 2, 3), FEWEST, "4 5 0 3 1 2 3 0 0 0 0 1");
    }

    private static void fewestEndFirst() {
        checks.sentence("END of the row ahead of UNITS by themselves");
        packs("three that are 0", Made.rows(3, 0, 0, 0), FEWEST, "0 0 0 1");
        packs("four that are 0", Made.rows(4, 0, 0, 0, 0), FEWEST, "0 0 0 1");
        packs("behind another", Made.rows(5, 9, 0, 0, 0, 0), FEWEST, "1 9 0 0 0 1");
    }

    private static void fewestThemselvesFirst() {
        checks.sentence("these ahead of a run");
        packs("marked, three like bytes", Made.source(0, 7, 7, 7), FEWEST, "7 7 7 0 0");
        packs("marked, two like UNITS", Made.with(Made.source(0, 7, 8, 7, 8), 0, 2), FEWEST, "7 8 7 8 0 0");
        packs("signed, two like ones and one", Made.source(1, 2, 2, 1), FEWEST, "2 2 2 1");
        packs("signed, 129 like ones", alike(1, 129), FEWEST, "0 9 129 9");
        packs("a row of three", Made.rows(3, 1, 2, 3), FEWEST, "0 3 1 2 3 0 0 0 0 1");
        packs("a row of three runs", Made.rows(4, 1, 1, 2, 3), FEWEST, "0 4 1 1 2 3 0 0 0 1");
        packs("a run and four", Made.rows(6, 7, 7, 1, 2, 3, 4), FEWEST, "0 6 7 7 1 2 3 4 0 0 0 1");
    }

    private static void fewestMoreFirst() {
        checks.sentence("of like sorts the one of more UNITS");
        packs("signed, one and two like ones", Made.source(1, 1, 2, 2), FEWEST, "2 1 2 2");
        packs("signed, 130 different ones", Made.source(1, Made.upFrom(0, 130)), FEWEST,
                "127 " + Made.text(Made.upFrom(0, 128)) + " 1 128 129");
        packs("signed, 130 like ones", alike(1, 130), FEWEST, "129 9 255 9");
        packs("signed, 240 like ones", alike(1, 240), FEWEST, "129 9 145 9");
        packs("a byte of the row's END", Made.rows(4, 1, 2, 3, 0), FEWEST, "0 4 1 2 3 0 0 0 0 1");
        packs("one byte of it, not two", Made.rows(5, 1, 2, 3, 0, 0), FEWEST, "0 4 1 2 3 0 0 0 0 1");
        packs("five, not four and a run", Made.rows(5, 1, 2, 3, 4, 5), FEWEST, "0 5 1 2 3 4 5 0 0 0 0 1");
        packs("twelve, not four, a run and four", Made.rows(12, 1, 2, 3, 4, 9, 9, 9, 9, 5, 6, 7, 8), FEWEST,
                "0 12 1 2 3 4 9 9 9 9 5 6 7 8 0 0 0 1");
        packs("but four, a run and four for thirteen", Made.rows(13, 1, 2, 3, 4, 9, 9, 9, 9, 9, 5, 6, 7, 8), FEWEST,
                "0 4 1 2 3 4 5 9 0 4 5 6 7 8 0 0 0 1");
        packs("eight, not five and a run", Made.rows(8, 1, 2, 3, 4, 5, 6, 6, 6), FEWEST,
                "0 8 1 2 3 4 5 6 6 6 0 0 0 1");
    }

    // ---- GREEDY

    private static void greedyEnd() {
        checks.sentence("GREEDY: from the left: the END of the row, if it may stand");
        packs("at once, where a run might", Made.rows(4, 0, 0, 0, 0), GREEDY, "0 0 0 1");
        packs("behind one", Made.rows(4, 9, 0, 0, 0), GREEDY, "1 9 0 0 0 1");
        packs("behind a run", Made.rows(4, 9, 9, 9, 0), GREEDY, "3 9 0 0 0 1");
        packs("not ahead of one that is not 0", Made.rows(4, 0, 0, 0, 9), GREEDY, "3 0 1 9 0 0 0 1");
    }

    private static void greedyLike() {
        checks.sentence("r being how many like UNITS stand here (255, in FORM 1 128 at most; in FORM 2 in this row)");
        packs("marked, 240", alike(0, 240), GREEDY, "0 240 9 0 0");
        packs("signed, 128", alike(1, 128), GREEDY, "129 9");
        packs("signed, 129", alike(1, 129), GREEDY, "129 9 0 9");
        packs("signed, 130", alike(1, 130), GREEDY, "129 9 255 9");
        packs("three in a row, one in the next", Made.rows(4, 1, 9, 9, 9, 9, 2, 3, 4), GREEDY,
                "1 1 3 9 0 0 0 4 9 2 3 4 0 0 0 1");
        packs("two in a row, two in the next", Made.rows(3, 1, 9, 9, 9, 9, 2), GREEDY,
                "0 3 1 9 9 0 0 0 0 3 9 9 2 0 0 0 0 1");
    }

    private static void greedyMarkedRun() {
        checks.sentence("a run of r, if in FORM 0 r U is above 2 + U");
        packs("3 of one byte", alike(0, 3), GREEDY, "9 9 9 0 0");
        packs("4 of one byte", alike(0, 4), GREEDY, "0 4 9 0 0");
        packs("2 of two bytes", Made.with(alike(0, 4), 0, 2), GREEDY, "9 9 9 9 0 0");
        packs("3 of two bytes", Made.with(alike(0, 6), 0, 2), GREEDY, "0 3 9 9 0 0");
        packs("1 of four bytes", Made.with(alike(0, 4), 0, 4), GREEDY, "9 9 9 9 0 0");
        packs("2 of four bytes", Made.with(alike(0, 8), 0, 4), GREEDY, "0 2 9 9 9 9 0 0");
    }

    private static void greedyMark() {
        checks.sentence("or the first byte is M");
        packs("1", marked(1, 9, 9), GREEDY, "9 1 9 9 0");
        packs("2", marked(1, 9, 9, 9), GREEDY, "9 2 9 9 0");
        packs("3", marked(1, 9, 9, 9, 9), GREEDY, "9 3 9 9 0");
        packs("2 of two bytes", marked(2, 9, 9, 8, 9, 8), GREEDY, "9 2 9 8 9 0");
        packs("1 of four bytes", marked(4, 9, 9, 8, 7, 6), GREEDY, "9 1 9 8 7 6 9 0");
        packs("another byte is", marked(4, 9, 8, 9, 9, 9), GREEDY, "8 9 9 9 9 0");
    }

    private static void greedySignedRun() {
        checks.sentence("in FORM 1 r is above 1");
        packs("1", Made.source(1, 9), GREEDY, "0 9");
        packs("2", Made.source(1, 9, 9), GREEDY, "255 9");
        packs("2 between others", Made.source(1, 1, 2, 2, 3), GREEDY, "0 1 255 2 0 3");
        packs("1 of two like bytes", Made.with(Made.source(1, 9, 9), 0, 2), GREEDY, "0 9 9");
    }

    private static void greedyRowRun() {
        checks.sentence("in FORM 2 r is above 2");
        packs("2", Made.rows(2, 9, 9), GREEDY, "1 9 1 9 0 0 0 1");
        packs("3", Made.rows(3, 9, 9, 9), GREEDY, "3 9 0 0 0 1");
        packs("4", Made.rows(4, 9, 9, 9, 9), GREEDY, "4 9 0 0 0 1");
        packs("3 that are 0 ahead of another", Made.rows(4, 0, 0, 0, 9), GREEDY, "3 0 1 9 0 0 0 1");
    }

    private static void greedyMarkedUnit() {
        checks.sentence("Else by themselves: in FORM 0 this UNIT");
        packs("three, then a run", Made.source(0, 7, 7, 7, 8, 8, 8, 8), GREEDY, "7 7 7 0 4 8 0 0");
        packs("a run, then three", Made.source(0, 8, 8, 8, 8, 7, 7, 7), GREEDY, "0 4 8 7 7 7 0 0");
        packs("one of two bytes", Made.with(Made.source(0, 7, 8, 7, 9), 0, 2), GREEDY, "7 8 7 9 0 0");
    }

    private static void greedySignedThemselves() {
        checks.sentence("in FORM 1 all up to ahead of the next two like UNITS, 128 at most");
        packs("none like", Made.source(1, 1, 2, 1, 2), GREEDY, "3 1 2 1 2");
        packs("two like at the end", Made.source(1, 1, 2, 3, 3), GREEDY, "1 1 2 255 3");
        packs("three like at the end", Made.source(1, 1, 2, 3, 3, 3), GREEDY, "1 1 2 254 3");
        packs("four like in the middle", Made.source(1, 1, 2, 3, 3, 3, 3, 4), GREEDY, "1 1 2 253 3 0 4");
        packs("two like at once", Made.source(1, 1, 1, 2), GREEDY, "255 1 0 2");
        packs("like bytes, not UNITS", Made.with(Made.source(1, 5, 5, 5, 6), 0, 2), GREEDY, "1 5 5 5 6");
        packs("127, then two like", signedAheadOfTwo(127), GREEDY,
                "126 " + Made.text(Made.upFrom(0, 127)) + " 255 200");
        packs("128, then two like", signedAheadOfTwo(128), GREEDY,
                "127 " + Made.text(Made.upFrom(0, 128)) + " 255 200");
        packs("129, then two like", signedAheadOfTwo(129), GREEDY,
                "127 " + Made.text(Made.upFrom(0, 128)) + " 0 128 255 200");
    }

    private static RunForms signedAheadOfTwo(int different) {
        RunForms x = Made.source(1, Made.upFrom(0, different));
        x.repeat(2, 200);
        return x;
    }

    private static void greedyRowBytes() {
        checks.sentence("in FORM 2 all up to ahead of the next three like bytes or where the row may END (255 at "
                + "most), if these are 3 or more, else this byte as a run of 1");
        packs("three ahead of three", Made.rows(6, 1, 2, 3, 9, 9, 9), GREEDY, "0 3 1 2 3 0 3 9 0 0 0 1");
        packs("three ahead of four", Made.rows(7, 1, 2, 3, 9, 9, 9, 9), GREEDY, "0 3 1 2 3 0 4 9 0 0 0 1");
        packs("two ahead of four", Made.rows(6, 1, 2, 9, 9, 9, 9), GREEDY, "1 1 1 2 4 9 0 0 0 1");
        packs("two ahead of three", Made.rows(5, 1, 2, 9, 9, 9), GREEDY, "1 1 1 2 3 9 0 0 0 1");
        packs("one ahead of three", Made.rows(4, 1, 9, 9, 9), GREEDY, "1 1 3 9 0 0 0 1");
        packs("two like ones ahead of three", Made.rows(6, 9, 9, 8, 8, 8, 0), GREEDY, "1 9 1 9 3 8 0 0 0 1");
        packs("two like ones among three", Made.rows(6, 1, 1, 2, 3, 3, 3), GREEDY, "0 3 1 1 2 0 3 3 0 0 0 1");
        packs("ahead of two like ones it goes on", Made.rows(6, 1, 2, 9, 9, 8, 8), GREEDY,
                "0 6 1 2 9 9 8 8 0 0 0 1");
        packs("three ahead of END", Made.rows(5, 1, 2, 3, 0, 0), GREEDY, "0 3 1 2 3 0 0 0 0 1");
        packs("two ahead of END", Made.rows(4, 1, 2, 0, 0), GREEDY, "1 1 1 2 0 0 0 1");
        packs("one ahead of END", Made.rows(4, 1, 0, 0, 0), GREEDY, "1 1 0 0 0 1");
        packs("three ahead of one that is 0", Made.rows(4, 1, 2, 3, 0), GREEDY, "0 3 1 2 3 0 0 0 0 1");
        packs("ahead of three that are 0", Made.rows(7, 1, 2, 3, 0, 0, 0, 4), GREEDY,
                "0 3 1 2 3 0 3 0 1 4 0 0 0 1");
        packs("all 60", Made.rows(60, Made.upFrom(1, 60)), GREEDY,
                "0 60 " + Made.text(Made.upFrom(1, 60)) + " 0 0 0 1");
    }

    // ---- means

    private static RunForms marked(int unitBytes, int mark, int... bytes) {
        return Made.with(Made.source(0, bytes), 0, unitBytes, 2, mark);
    }

    private static RunForms alike(int form, int many) {
        RunForms x = new RunForms(form);
        x.repeat(many, 9);
        return x;
    }

    private static void packs(String what, RunForms x, int how, String code) {
        checks.duePacked(what, x, how, code);
    }

    private static void packs(String what, RunForms x, String code) {
        checks.duePacked(what, x, code);
    }
}
