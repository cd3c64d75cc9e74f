/** The sections 'Promise 1' to 'Promise 16': a test for each sentence, with the boundary cases that it names. */
public final class PromisesTest {
    private static final int BAD = -1, FULL = -2, STATE = -3;
    private static final int LOWEST = Integer.MIN_VALUE, HIGHEST = Integer.MAX_VALUE;
    private static final RunChecks checks = new RunChecks("PromisesTest");

    public static void main(String[] args) {
        newForm();
        newEmpty();
        octet();
        repeat();
        repeatFull();
        code();
        cut();
        rule();
        ruleOfRows();
        pack();
        packNotWhole();
        size();
        open();
        openFault();
        fault();
        plain();
        plainTooMany();
        out();
        outNone();
        at();
        unit();
        unitNone();
        boundWhole();
        boundMarked();
        boundSigned();
        boundRows();
        boundHolds();
        told();
        toldPlace();
        checks.end();
    }

    // ---- promise 1

    private static void newForm() {
        checks.sentence("A FORM; 0, if it is none");
        int[][] forms = {{0, 0}, {1, 1}, {2, 2}, {3, 0}, {-1, 0}, {256, 0}, {258, 0}, {LOWEST, 0}, {HIGHEST, 0}};
        for (int[] f : forms) {
            due("form " + f[0], new RunForms(f[0]).told(0), f[1]);
        }
        due("none packs as 0", new RunForms(3).size(0), 2);
        checks.dueOpened("none opens as 0", Made.code(-1, 9, 0, 0), "9");
        due("none has its U", new RunForms(3).rule(0, 2), 1);
    }

    private static void newEmpty() {
        checks.sentence("SOURCE, CODE, PLAIN are empty");
        for (int form = -1; form <= 3; form++) {
            RunForms x = new RunForms(form);
            for (int what = 1; what <= 4; what++) {
                due("told " + what, x.told(what), 0);
            }
            due("no SOURCE", x.at(0, 0), BAD);
            due("no CODE", x.at(1, 0), BAD);
            due("no UNIT", x.unit(0), BAD);
            checks.dueNoByte("no PLAIN", x, 0);
            due("nothing went of SOURCE", x.cut(0, 0), 0);
            due("nothing went of CODE", x.cut(1, 0), 0);
            due("no FAULT", x.fault(), 0);
        }
    }

    // ---- promises 2 to 6

    private static void octet() {
        checks.sentence("A byte behind SOURCE: how many it has. BAD; FULL.");
        RunForms x = new RunForms(0);
        due("lowest", x.octet(0), 1);
        due("highest", x.octet(255), 2);
        due("below", x.octet(-1), BAD);
        due("above", x.octet(256), BAD);
        due("its bytes", Made.bytes(x, 0), "0 255");
        due("CODE has none", x.told(2), 0);
        x.repeat(237, 1);
        due("the last", x.octet(9), 240);
        due("full", x.octet(9), FULL);
        due("bad ahead of full", x.octet(256), BAD);
        due("stays", x.told(1), 240);
        x.cut(0, 239);
        due("room again", x.octet(8), 240);
        due("its byte", x.at(0, 239), 8);
    }

    private static void repeat() {
        checks.sentence("n times a byte behind SOURCE (n 1 .. 240): how many it has");
        RunForms x = new RunForms(1);
        due("once", x.repeat(1, 5), 1);
        due("three times", x.repeat(3, 255), 4);
        due("bytes", Made.bytes(x, 0), "5 255 255 255");
        int[] refused = {LOWEST, -1, 0, 241, 256, HIGHEST};
        for (int n : refused) {
            due(n + " times", x.repeat(n, 5), BAD);
        }
        due("byte below", x.repeat(2, -1), BAD);
        due("byte above", x.repeat(2, 256), BAD);
        due("stays", x.told(1), 4);
        due("240 times", new RunForms(0).repeat(240, 0), 240);
    }

    private static void repeatFull() {
        checks.sentence("FULL: not all would go in");
        RunForms x = Made.source(0, 5, 5, 5, 5);
        due("one too many", x.repeat(237, 6), FULL);
        due("240", x.repeat(240, 6), FULL);
        due("none went in", Made.bytes(x, 0), "5 5 5 5");
        due("just all", x.repeat(236, 6), 240);
        due("the last", x.at(0, 239), 6);
        due("no more", x.repeat(1, 6), FULL);
        due("bad ahead of full", x.repeat(241, 6), BAD);
    }

    private static void code() {
        checks.sentence("A byte behind CODE: how many it has. BAD; FULL.");
        RunForms x = Made.rows(1);
        due("lowest", x.code(0), 1);
        due("highest", x.code(255), 2);
        due("below", x.code(-1), BAD);
        due("above", x.code(256), BAD);
        due("its bytes", Made.bytes(x, 1), "0 255");
        due("SOURCE has none", x.told(1), 0);
        x.repeat(240, 9);
        x.pack(0);
        for (int n = 963; n <= 1000; n++) {
            due("behind what was packed", x.code(1), n);
        }
        due("full", x.code(1), FULL);
        due("bad ahead of full", x.code(256), BAD);
        x.cut(1, 999);
        due("room again", x.code(7), 1000);
        due("its byte", x.at(1, 999), 7);
    }

    private static void cut() {
        checks.sentence("SOURCE (which = 0), CODE (1) keeps its first n bytes: how many went. BAD.");
        RunForms x = Made.source(0, 1, 2, 3);
        Made.codes(x, 4, 5);
        due("none of SOURCE", x.cut(0, 3), 0);
        due("none of CODE", x.cut(1, 2), 0);
        due("one of SOURCE", x.cut(0, 2), 1);
        due("SOURCE", Made.bytes(x, 0), "1 2");
        due("CODE stays", Made.bytes(x, 1), "4 5");
        due("one of CODE", x.cut(1, 1), 1);
        due("CODE", Made.bytes(x, 1), "4");
        due("more than SOURCE has", x.cut(0, 3), BAD);
        due("more than CODE has", x.cut(1, 2), BAD);
        due("below 0", x.cut(0, -1), BAD);
        due("far below 0", x.cut(1, LOWEST), BAD);
        due("far above", x.cut(1, HIGHEST), BAD);
        due("which below", x.cut(-1, 0), BAD);
        due("which above", x.cut(2, 0), BAD);
        due("SOURCE stays", Made.bytes(x, 0), "1 2");
        due("all of SOURCE", x.cut(0, 0), 2);
        due("all of CODE", x.cut(1, 0), 1);
        due("of nothing", x.cut(0, 0), 0);
        due("the next byte is the first", x.octet(7), 1);
        due("its byte", Made.bytes(x, 0), "7");
    }

    private static void rule() {
        checks.sentence("0 U, 1 W, 2 M, 3 DIFFERENCES becomes v: what it was. BAD");
        int[][] ends = {{1, 4}, {1, 60}, {0, 255}, {0, 1}};
        for (int what = 0; what < 4; what++) {
            RunForms x = new RunForms(1);
            due("at first " + what, x.rule(what, ends[what][0]), what == 1 ? 8 : ends[what][0]);
            due("to the most " + what, x.rule(what, ends[what][1]), ends[what][0]);
            due("the same " + what, x.rule(what, ends[what][1]), ends[what][1]);
            due("below " + what, x.rule(what, ends[what][0] - 1), BAD);
            due("above " + what, x.rule(what, ends[what][1] + 1), BAD);
            due("stays " + what, x.rule(what, ends[what][0]), ends[what][1]);
            int[] firsts = {1, 8, 0, 0};
            firsts[what] = ends[what][0];
            due("no other", Made.rules(x), Made.text(firsts));
        }
        RunForms x = new RunForms(0);
        int[] wrong = {LOWEST, -1, 4, 256, HIGHEST};
        for (int what : wrong) {
            due("what " + what, x.rule(what, 1), BAD);
        }
    }

    private static void ruleOfRows() {
        checks.sentence("STATE: U or DIFFERENCES in FORM 2");
        RunForms x = new RunForms(2);
        due("U as it is", x.rule(0, 1), STATE);
        due("U", x.rule(0, 4), STATE);
        due("DIFFERENCES as they are", x.rule(3, 0), STATE);
        due("DIFFERENCES", x.rule(3, 1), STATE);
        due("no U", x.rule(0, 3), BAD);
        due("no DIFFERENCES", x.rule(3, 2), BAD);
        due("W", x.rule(1, 3), 8);
        due("M", x.rule(2, 3), 0);
        due("not in FORM 0", new RunForms(0).rule(0, 4), 1);
        due("not in FORM 1", new RunForms(1).rule(3, 1), 0);
    }

    // ---- promises 7 and 8

    private static void pack() {
        checks.sentence("CODE becomes SOURCE packed, GREEDY (0) or in the FEWEST bytes (1): how many. BAD");
        RunForms x = Made.source(1, 1, 2, 2, 3);
        Made.codes(x, 9, 9, 9, 9, 9, 9, 9, 9);
        checks.duePacked("greedy", x, 0, "0 1 255 2 0 3");
        checks.duePacked("fewest", x, 1, "3 1 2 2 3");
        due("below", x.pack(-1), BAD);
        due("above", x.pack(2), BAD);
        due("CODE stays", Made.bytes(x, 1), "3 1 2 2 3");
        x.cut(0, 0);
        due("nothing", x.pack(0), 0);
        due("CODE is nothing", x.told(2), 0);
        for (int how = 0; how < 2; how++) {
            x = Made.rows(4, 9, 9, 9, 9);
            checks.duePacked("a row", x, how, "4 9 0 0 0 1");
            x.cut(0, 0);
            x.repeat(4, 0);
            checks.duePacked("another row", x, how, "0 0 0 1");
            x.cut(0, 0);
            Made.octets(x, 9, 0, 0, 0);
            checks.duePacked("a third row", x, how, "1 9 0 0 0 1");
        }
        checks.duePacked("marked nothing", new RunForms(0), "0 0");
        checks.duePacked("no rows", new RunForms(2), "0 1");
    }

    private static void packNotWhole() {
        checks.sentence("STATE: it is not whole UNITS, rows");
        for (int form = 0; form < 2; form++) {
            RunForms x = Made.with(Made.source(form, 1, 2, 3), 0, 2);
            due("three of two", x.pack(0), STATE);
            due("three of two in fewest", x.pack(1), STATE);
            due("bad ahead of state", x.pack(2), BAD);
            due("CODE stays", x.told(2), 0);
            Made.with(x, 0, 4);
            due("three of four", x.pack(0), STATE);
            x.octet(4);
            due("four of four", x.pack(0) > 0 ? 1 : 0, 1);
            x.octet(5);
            due("five of four", x.pack(0), STATE);
            Made.with(x, 0, 1, 1, 4);
            due("W is not looked at", x.pack(0) > 0 ? 1 : 0, 1);
        }
        RunForms x = Made.rows(2, 1, 2, 3);
        due("three in rows of two", x.pack(0), STATE);
        due("three in rows of two in fewest", x.pack(1), STATE);
        Made.with(x, 1, 60);
        due("three in a row of 60", x.pack(0), STATE);
        Made.with(x, 1, 3);
        due("three in a row of three", x.pack(0), 10);
        Made.with(x, 1, 1);
        due("three in rows of one", x.pack(0), 14);
    }

    private static void size() {
        checks.sentence("How many bytes SOURCE would have packed so (CODE stays). BAD; STATE.");
        RunForms x = Made.source(1, 1, 2, 2, 3);
        Made.codes(x, 9);
        due("greedy", x.size(0), 6);
        due("fewest", x.size(1), 5);
        due("CODE stays", Made.bytes(x, 1), "9");
        due("SOURCE stays", Made.bytes(x, 0), "1 2 2 3");
        due("below", x.size(-1), BAD);
        due("above", x.size(2), BAD);
        Made.with(x, 0, 4);
        due("whole", x.size(1), 5);
        x.octet(1);
        due("not whole", x.size(0), STATE);
        due("not whole in fewest", x.size(1), STATE);
        due("bad ahead of state", x.size(2), BAD);
        due("not whole rows", Made.rows(2, 1).size(0), STATE);
        due("marked nothing", new RunForms(0).size(1), 2);
        due("signed nothing", new RunForms(1).size(1), 0);
        due("no rows", new RunForms(2).size(1), 2);
        x = Made.rows(1);
        x.repeat(240, 9);
        due("the most", x.size(0), 962);
    }

    // ---- promises 9 and 10

    private static void open() {
        checks.sentence("SOURCE becomes CODE opened: how many bytes");
        RunForms x = Made.code(0, 5, 0, 3, 6, 0, 0);
        Made.octets(x, 1, 1, 1, 1, 1, 1, 1, 1);
        checks.dueOpened("fewer than before", x, "5 6 6 6");
        x.cut(0, 0);
        checks.dueOpened("more than before", x, "5 6 6 6");
        x.cut(1, 0);
        Made.codes(x, 0, 0);
        checks.dueOpened("nothing", x, "");
        due("a byte behind it", x.octet(3), 1);
        due("240", Made.code(0, 0, 240, 1, 0, 0).open(), 240);
    }

    private static void openFault() {
        checks.sentence("-10 less the place of the FAULT (SOURCE stays)");
        checks.dueFault("place 0", Made.code(0), 1, 0);
        checks.dueFault("place 1", Made.code(0, 5), 1, 1);
        checks.dueFault("place 2", Made.rowCode(3, 3, 5, 1, 6, 0, 1), 3, 2);
        RunForms x = Made.code(0, 5, 5, 0);
        x.repeat(240, 8);
        due("SOURCE is full", x.open(), -12);
        due("and stays", x.told(1), 240);
        due("its first", x.at(0, 0), 8);
        due("its last", x.at(0, 239), 8);
    }

    private static void fault() {
        checks.sentence("The FAULT of the latest open(); 0.");
        RunForms x = Made.code(0, 5);
        due("no open() yet", x.fault(), 0);
        due("open", x.open(), -11);
        due("NO END", x.fault(), 1);
        Made.codes(x, 0);
        x.plain(3);
        due("NO END still", x.fault(), 1);
        due("open", x.open(), -11);
        due("LACKS", x.fault(), 2);
        Made.codes(x, 0);
        due("opens", x.open(), 1);
        due("none", x.fault(), 0);
        Made.codes(x, 0);
        x.open();
        due("BEHIND", x.fault(), 5);
        x.pack(0);
        due("BEHIND still", x.fault(), 5);
    }

    // ---- promises 11 and 12

    private static void plain() {
        checks.sentence("PLAIN, with n bytes (n 400 at most): 0, or why it failed");
        RunForms x = Made.code(0, 5, 6, 0, 0);
        checks.duePlain("none", x, 0, 1, 0, "");
        checks.duePlain("one", x, 1, 1, 1, "5");
        checks.duePlain("two", x, 2, 0, 2, "5 6");
        checks.duePlain("below 0", x, -1, 2, 0, "");
        checks.duePlain("400", x, 400, 0, 2, "5 6 " + Made.times(398, "0"));
        due("CODE stays", x.told(2), 4);
        due("SOURCE stays", x.told(1), 0);
    }

    private static void plainTooMany() {
        checks.sentence("BAD: n is above 400");
        RunForms x = Made.code(0, 5, 0, 0);
        x.plain(2);
        due("401", x.plain(401), BAD);
        due("far above", x.plain(HIGHEST), BAD);
        due("PLAIN stays", Made.plain(x), "5 0");
        due("what was put stays", x.told(4), 1);
        due("400", x.plain(400), 0);
        due("400 bytes", x.told(3), 400);
    }

    private static void out() {
        checks.sentence("A byte of PLAIN, with a sign");
        RunForms x = Made.code(0, 127, 128, 255, 1, 0, 0);
        x.plain(5);
        due("127", x.out(0), 127);
        due("128", x.out(1), -128);
        due("255", x.out(2), -1);
        due("1", x.out(3), 1);
        due("not put", x.out(4), 0);
        x.cut(1, 0);
        due("PLAIN stays when CODE goes", x.out(0), 127);
        x.plain(400);
        due("the last of 400", x.out(399), 0);
        checks.dueNoByte("behind it", x, 400);
    }

    private static void outNone() {
        checks.sentence("there is none such (none at all, if n was below 0)");
        RunForms x = Made.code(0, 5, 0, 0);
        checks.dueNoByte("ahead of plain", x, 0);
        x.plain(1);
        due("the only one", x.out(0), 5);
        checks.dueNoByte("behind all", x, 1);
        checks.dueNoByte("further behind", x, 2);
        checks.dueNoByte("where the largest PLAIN has one", x, 399);
        checks.dueNoByte("where none has one", x, 400);
        checks.dueNoByte("below", x, -1);
        checks.dueNoByte("far above", x, HIGHEST);
        checks.dueNoByte("far below", x, LOWEST);
        x.plain(0);
        checks.dueNoByte("n was 0", x, 0);
        x.plain(3);
        x.plain(1);
        checks.dueNoByte("the one before had one", x, 1);
        x.plain(-1);
        checks.dueNoByte("n was below 0", x, 0);
        checks.dueNoByte("n was below 0", x, -1);
        x.plain(1);
        x.plain(LOWEST);
        checks.dueNoByte("n was far below 0", x, 0);
    }

    // ---- promises 13 to 16

    private static void at() {
        checks.sentence("Byte i of SOURCE (which = 0), CODE (1). BAD.");
        RunForms x = Made.source(0, 0, 255);
        Made.codes(x, 128);
        due("SOURCE", x.at(0, 0), 0);
        due("its last", x.at(0, 1), 255);
        due("behind it", x.at(0, 2), BAD);
        due("CODE", x.at(1, 0), 128);
        due("behind it", x.at(1, 1), BAD);
        due("below", x.at(0, -1), BAD);
        due("far below", x.at(1, LOWEST), BAD);
        due("far above", x.at(0, HIGHEST), BAD);
        due("which below", x.at(-1, 0), BAD);
        due("which above", x.at(2, 0), BAD);
        x.cut(0, 1);
        due("what was cut", x.at(0, 1), BAD);
        x.cut(1, 0);
        due("what was cut of CODE", x.at(1, 0), BAD);
    }

    private static void unit() {
        checks.sentence("The number of SOURCE's UNIT i (as it stands; of 4 bytes as a long without sign)");
        RunForms x = Made.source(0, 255, 254, 253, 252, 127, 255, 255, 255);
        due("one byte", x.unit(0), 255);
        due("the last byte", x.unit(7), 255);
        Made.with(x, 0, 2);
        due("two bytes", x.unit(0), 65534);
        due("the last two", x.unit(3), 65535);
        Made.with(x, 0, 4);
        due("four bytes", x.unit(0), 4294901244L);
        due("the last four", x.unit(1), 2147483647L);
        Made.with(x, 3, 1);
        due("with DIFFERENCES as it stands", x.unit(1), 2147483647L);
        due("the least with a sign", Made.with(Made.source(1, 128, 0, 0, 0), 0, 4).unit(0), 2147483648L);
        due("the highest", Made.with(Made.source(1, 255, 255, 255, 255), 0, 4).unit(0), 4294967295L);
        due("0", Made.with(Made.source(1, 0, 0, 0, 0), 0, 4).unit(0), 0);
        due("of rows", Made.rows(4, 1, 2, 3).unit(2), 3);
    }

    private static void unitNone() {
        checks.sentence("BAD: there is none such, wholly");
        RunForms x = Made.source(0, 1, 2, 3, 4, 5, 6, 7);
        due("behind all", x.unit(7), BAD);
        Made.with(x, 0, 2);
        due("the last whole one", x.unit(2), 0x0506);
        due("half", x.unit(3), BAD);
        Made.with(x, 0, 4);
        due("the only whole one", x.unit(0), 0x01020304);
        due("three of four", x.unit(1), BAD);
        x.octet(8);
        due("four of four", x.unit(1), 0x05060708);
        int[] far = {LOWEST, -1, 2, 1 << 29, 1 << 30, HIGHEST};
        for (int i : far) {
            due("UNIT " + i, x.unit(i), BAD);
        }
    }

    private static void boundWhole() {
        checks.sentence("What n bytes (0 .. 240, whole UNITS, rows; else BAD) never pass");
        int[] far = {LOWEST, -240, -4, -1, 241, 244, 300, HIGHEST};
        for (int form = 0; form < 3; form++) {
            RunForms x = Made.with(new RunForms(form), 1, 4);
            for (int n : far) {
                due(n + " bytes", x.bound(n), BAD);
            }
            due("240 bytes", x.bound(240) > 0 ? 1 : 0, 1);
            Made.with(x, 0, 4);
            int[] broken = {1, 2, 3, 5, 6, 7, 239};
            for (int n : broken) {
                due(n + " bytes of four", x.bound(n), BAD);
            }
            due("whole ones", x.bound(4) > 0 ? 1 : 0, 1);
        }
        due("-1 in rows of 1", Made.rows(1).bound(-1), BAD);
        due("241 in rows of 1", Made.rows(1).bound(241), BAD);
        due("-4 of four", Made.with(new RunForms(1), 0, 4).bound(-4), BAD);
        due("SOURCE is not looked at", Made.with(Made.source(0, 1), 0, 2).bound(2), 6);
        due("240 are no rows of 7", Made.rows(7).bound(240), BAD);
        due("238 are", Made.rows(7).bound(238), 2 + 34 * 12);
    }

    private static void boundMarked() {
        checks.sentence("FORM 0: n and 2, and 2 for each UNIT");
        RunForms x = new RunForms(0);
        due("nothing", x.bound(0), 2);
        due("one", x.bound(1), 5);
        due("all", x.bound(240), 722);
        Made.with(x, 0, 2);
        due("nothing of two", x.bound(0), 2);
        due("one of two", x.bound(2), 6);
        due("all of two", x.bound(240), 482);
        Made.with(x, 0, 4);
        due("one of four", x.bound(4), 8);
        due("all of four", x.bound(240), 362);
    }

    private static void boundSigned() {
        checks.sentence("1: n, and 1 for each 128 UNITS begun");
        RunForms x = new RunForms(1);
        due("nothing", x.bound(0), 0);
        due("one", x.bound(1), 2);
        due("127", x.bound(127), 128);
        due("128", x.bound(128), 129);
        due("129", x.bound(129), 131);
        due("all", x.bound(240), 242);
        Made.with(x, 0, 2);
        due("one of two", x.bound(2), 3);
        due("all of two", x.bound(240), 241);
        Made.with(x, 0, 4);
        due("all of four", x.bound(240), 241);
    }

    private static void boundRows() {
        checks.sentence("2: 2, and for each row 2 and the lesser of 2 W and (W above 2) W + 2 (and 1, if W is odd)");
        int[][] rows = {{1, 6}, {2, 8}, {3, 10}, {4, 10}, {5, 12}, {6, 12}, {7, 14}, {8, 14}, {59, 66}, {60, 66}};
        for (int[] r : rows) {
            RunForms x = Made.rows(r[0]);
            due("no rows of " + r[0], x.bound(0), 2);
            due("a row of " + r[0], x.bound(r[0]), r[1]);
            due("two rows of " + r[0], x.bound(2 * r[0]), 2 * r[1] - 2);
        }
        due("240 rows", Made.rows(1).bound(240), 962);
    }

    private static void boundHolds() {
        checks.sentence("never pass in the FEWEST bytes");
        reachesBound("a mark", Made.source(0, 0));
        reachesBound("marked nothing", Made.source(0));
        reachesBound("UNITS of two that begin with M", Made.with(Made.source(0, 0, 1, 0, 2, 0, 3), 0, 2));
        reachesBound("UNITS of four that begin with M", Made.with(Made.source(0, 0, 0, 0, 1, 0, 0, 0, 2), 0, 4));
        reachesBound("signed nothing", Made.source(1));
        reachesBound("128 different ones", Made.source(1, Made.upFrom(0, 128)));
        reachesBound("129 different ones", Made.source(1, Made.upFrom(0, 129)));
        reachesBound("240 different ones", Made.source(1, Made.upFrom(0, 240)));
        int[] widths = {1, 2, 3, 4, 5, 6, 59, 60};
        for (int width : widths) {
            reachesBound("two rows of " + width, Made.rows(width, Made.upFrom(1, 2 * width)));
        }
    }

    private static void reachesBound(String what, RunForms x) {
        due(what, x.size(1), x.bound(x.told(1)));
    }

    private static void told() {
        checks.sentence("0 FORM, 1 bytes of SOURCE, 2 of CODE, 3 of PLAIN");
        RunForms x = Made.rowCode(5, 2, 9, 0, 1);
        x.repeat(3, 1);
        x.plain(7);
        due("FORM", x.told(0), 2);
        due("SOURCE", x.told(1), 3);
        due("CODE", x.told(2), 4);
        due("PLAIN", x.told(3), 7);
        due("put", x.told(4), 2);
        int[] wrong = {LOWEST, -1, 5, HIGHEST};
        for (int what : wrong) {
            due("told " + what, x.told(what), BAD);
        }
        x.plain(0);
        due("PLAIN of none", x.told(3), 0);
        x.plain(400);
        due("PLAIN of 400", x.told(3), 400);
        x.plain(-5);
        due("PLAIN of below 0", x.told(3), 0);
    }

    private static void toldPlace() {
        checks.sentence("4 the greatest place of PLAIN that was put, and 1 (0: none)");
        RunForms x = Made.rowCode(3, 1, 9, 0, 1);
        due("no plain() yet", x.told(4), 0);
        x.plain(5);
        due("place 0", x.told(4), 1);
        x.plain(0);
        due("none had room", x.told(4), 0);
        x.plain(5);
        x.plain(-1);
        due("none, n was below 0", x.told(4), 0);
        x.cut(1, 0);
        Made.codes(x, 0, 2, 2, 1, 1, 0, 0, 1);
        x.plain(400);
        due("a 0 at place 5", x.told(4), 6);
        x.cut(1, 0);
        Made.codes(x, 5, 9, 0, 0, 1, 9, 0, 1);
        x.plain(400);
        due("place 4, then place 3", x.told(4), 5);
        x.plain(3);
        due("as far as it went", x.told(4), 3);
        x.cut(1, 0);
        Made.codes(x, 0, 2, 2, 1, 0, 1);
        x.plain(400);
        due("gone on, nothing put", x.told(4), 0);
    }

    private static void due(String what, long got, long want) {
        checks.due(what, got, want);
    }

    private static void due(String what, String got, String want) {
        checks.due(what, got, want);
    }
}
