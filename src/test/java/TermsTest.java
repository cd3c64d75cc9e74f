/** 'What it is' and the head of 'Terms': a test for each sentence that names a boundary case. */
public final class TermsTest {
    private static final int BAD = -1, FULL = -2, STATE = -3;
    private static final int LOWEST = Integer.MIN_VALUE, HIGHEST = Integer.MAX_VALUE;
    private static final RunChecks checks = new RunChecks("TermsTest");

    public static void main(String[] args) {
        lastCall();
        sourceRoom();
        codeRoom();
        codeRoomOpened();
        eachByte();
        unitBytes();
        unitOfRows();
        unitNumber();
        width();
        widthAtFirst();
        mark();
        differences();
        differencesOfRows();
        differencesModulo();
        differencesAddedUp();
        checks.end();
    }

    private static void lastCall() {
        checks.sentence("An object is used for at most 512 calls after it has been made");
        int[] packed = {5, 2, 6};
        for (int form = 0; form < 3; form++) {
            RunForms x = new RunForms(form);
            for (int n = 1; n <= 240; n++) {
                due("octet", x.octet(n), n);
            }
            for (int n = 239; n >= 0; n--) {
                due("cut", x.cut(0, n), 1);
            }
            for (int n = 1; n <= 28; n++) {
                due("code", x.code(n), n);
            }
            due("call 509", x.repeat(8, 7), 8);
            due("call 510", x.size(1), packed[form]);
            due("call 511", x.pack(1), packed[form]);
            due("call 512", x.open(), 8);
        }
    }

    private static void sourceRoom() {
        checks.sentence("SOURCE has 0 .. 240 bytes");
        RunForms x = new RunForms(0);
        due("none", x.told(1), 0);
        for (int n = 1; n <= 240; n++) {
            due("octet", x.octet(3), n);
        }
        due("byte 241", x.octet(3), FULL);
        due("240", x.told(1), 240);
        due("the last", x.at(0, 239), 3);
        due("behind the last", x.at(0, 240), BAD);
        int[] packed = {5, 4, 122};
        for (int form = 0; form < 3; form++) {
            x = new RunForms(form);
            x.repeat(240, 3);
            due("240 packed", x.pack(1), packed[form]);
            x.cut(0, 0);
            due("240 opened", x.open(), 240);
            due("its last", x.at(0, 239), 3);
        }
        int[] different = {242, 242, 362};
        for (int form = 0; form < 3; form++) {
            x = Made.with(Made.source(form, Made.upFrom(0, 240)), 2, 255);
            due("240 different ones packed, greedy", x.pack(0), different[form]);
            due("240 different ones packed, fewest", x.pack(1), different[form]);
            x.cut(0, 0);
            due("opened", x.open(), 240);
            due("the last", x.at(0, 239), 239);
        }
    }

    private static void codeRoom() {
        checks.sentence("CODE 0 .. 1000");
        RunForms x = Made.rows(1);
        due("none", x.told(2), 0);
        x.repeat(240, 9);
        due("the longest that is packed", x.pack(0), 962);
        due("its last", x.at(1, 961), 1);
        for (int n = 963; n <= 1000; n++) {
            due("code", x.code(n & 255), n);
        }
        due("byte 1001", x.code(1), FULL);
        due("1000", x.told(2), 1000);
        due("the last", x.at(1, 999), 1000 & 255);
        due("behind the last", x.at(1, 1000), BAD);
    }

    private static void codeRoomOpened() {
        checks.sentence("CODE 0 .. 1000");
        RunForms x = Made.rows(1);
        x.repeat(240, 9);
        x.pack(1);
        x.cut(1, 958);
        for (int k = 0; k < 10; k++) {
            Made.codes(x, 0, 2, 0, 0);
        }
        due("998 without END", x.open(), -10 - 998);
        due("is NO END", x.fault(), 1);
        Made.codes(x, 0, 1);
        due("1000", x.told(2), 1000);
        due("1000 opened", x.open(), 240);
        due("1000 copied", x.plain(240), 0);
        due("all put", x.told(4), 240);
        x.cut(1, 998);
        Made.codes(x, 1, 1);
        due("1000 that go past W", x.open(), -10 - 998);
        due("is PAST", x.fault(), 3);
        due("without END the copy fails", x.plain(400), 1);
        due("behind the last row", x.told(4), 241);
    }

    private static void eachByte() {
        checks.sentence("(0 .. 255 each)");
        int[] refused = {LOWEST, -256, -1, 256, 257, HIGHEST};
        for (int v : refused) {
            RunForms x = Made.source(0, 5);
            Made.codes(x, 6);
            due("octet " + v, x.octet(v), BAD);
            due("repeat " + v, x.repeat(2, v), BAD);
            due("code " + v, x.code(v), BAD);
            due("SOURCE stays", Made.bytes(x, 0), "5");
            due("CODE stays", Made.bytes(x, 1), "6");
        }
        int[] allowed = {0, 1, 127, 128, 254, 255};
        for (int v : allowed) {
            RunForms x = new RunForms(0);
            due("octet " + v, x.octet(v), 1);
            due("repeat " + v, x.repeat(2, v), 3);
            due("code " + v, x.code(v), 1);
            due("SOURCE", Made.bytes(x, 0), v + " " + v + " " + v);
            due("CODE", Made.bytes(x, 1), "" + v);
        }
    }

    private static void unitBytes() {
        checks.sentence("A UNIT is U bytes (1, 2, 4; 1 at first");
        for (int form = 0; form < 2; form++) {
            RunForms x = new RunForms(form);
            int[] refused = {LOWEST, -1, 0, 3, 5, 6, 8, 16, 257, HIGHEST};
            for (int v : refused) {
                due("U " + v, x.rule(0, v), BAD);
            }
            due("1 at first", x.rule(0, 4), 1);
            due("then 4", x.rule(0, 2), 4);
            due("then 2", x.rule(0, 1), 2);
            due("then 1", x.rule(0, 1), 1);
        }
    }

    private static void unitOfRows() {
        checks.sentence("in FORM 2 always 1");
        RunForms x = Made.rows(3, 1, 2, 3);
        int[] allowed = {1, 2, 4};
        for (int v : allowed) {
            due("U " + v, x.rule(0, v), STATE);
            due("a UNIT is one byte", x.unit(2), 3);
            due("three bytes are whole", x.pack(1), 10);
        }
    }

    private static void unitNumber() {
        checks.sentence("its number has its first byte highest");
        RunForms x = Made.source(0, 1, 2, 3, 4);
        due("of one", x.unit(3), 4);
        due("of two", Made.with(x, 0, 2).unit(1), 0x0304);
        due("of four", Made.with(x, 0, 4).unit(0), 0x01020304);
    }

    private static void width() {
        checks.sentence("W (1 .. 60");
        for (int form = 0; form < 3; form++) {
            RunForms x = new RunForms(form);
            int[] refused = {LOWEST, -1, 0, 61, 257, HIGHEST};
            for (int v : refused) {
                due("W " + v, x.rule(1, v), BAD);
            }
            due("8 at first", x.rule(1, 1), 8);
            due("then 1", x.rule(1, 60), 1);
            due("then 60", x.rule(1, 8), 60);
        }
        checks.duePacked("rows of 1", Made.rows(1, 5, 0), "1 5 0 0 0 0 0 1");
        checks.duePacked("a row of 60", Made.rows(60, Made.upFrom(1, 60)),
                "0 60 " + Made.text(Made.upFrom(1, 60)) + " 0 0 0 1");
        RunForms x = Made.rows(60);
        x.repeat(240, 5);
        checks.duePacked("four rows of 60", x, Made.times(4, "60 5 0 0") + " 0 1");
    }

    private static void widthAtFirst() {
        checks.sentence("8 at first");
        RunForms x = Made.source(2, 9, 9, 9, 9, 9, 9, 9);
        due("seven bytes are no row", x.pack(0), STATE);
        x.octet(9);
        checks.duePacked("eight are one", x, "8 9 0 0 0 1");
        x.octet(9);
        due("nine are none", x.pack(0), STATE);
        checks.dueOpened("one byte makes eight", Made.code(2, 1, 9, 0, 1), "9 0 0 0 0 0 0 0");
    }

    private static void mark() {
        checks.sentence("M (0 .. 255; 0 at first) the MARK");
        for (int form = 0; form < 3; form++) {
            RunForms x = new RunForms(form);
            int[] refused = {LOWEST, -1, 256, 257, HIGHEST};
            for (int v : refused) {
                due("M " + v, x.rule(2, v), BAD);
            }
            due("0 at first", x.rule(2, 255), 0);
            due("then 255", x.rule(2, 0), 255);
            due("then 0", x.rule(2, 0), 0);
        }
        checks.duePacked("at first", Made.source(0, 0, 255), "0 1 0 255 0 0");
        int[] marks = {1, 127, 128, 255};
        for (int m : marks) {
            RunForms x = Made.with(Made.source(0, 0, m), 2, m);
            checks.duePacked("M " + m, x, "0 " + m + " 1 " + m + " " + m + " 0");
            due("copied", x.plain(2), 0);
            due("its byte", x.out(1), (byte) m);
        }
    }

    private static void differences() {
        checks.sentence("DIFFERENCES (0, 1");
        for (int form = 0; form < 2; form++) {
            RunForms x = new RunForms(form);
            int[] refused = {LOWEST, -1, 2, 256, 257, HIGHEST};
            for (int v : refused) {
                due("DIFFERENCES " + v, x.rule(3, v), BAD);
            }
            due("0 at first", x.rule(3, 1), 0);
            due("then 1", x.rule(3, 1), 1);
            due("1 still", x.rule(3, 0), 1);
            due("then 0", x.rule(3, 0), 0);
        }
        RunForms x = Made.source(1, 5, 6, 7);
        checks.duePacked("without", x, "2 5 6 7");
        checks.duePacked("with", Made.with(x, 3, 1), 0, "0 5 255 1");
    }

    private static void differencesOfRows() {
        checks.sentence("in FORM 2 always 0");
        RunForms x = Made.rows(3, 5, 6, 7);
        due("0", x.rule(3, 0), STATE);
        due("1", x.rule(3, 1), STATE);
        checks.duePacked("packed without", x, "0 3 5 6 7 0 0 0 0 1");
    }

    private static void differencesModulo() {
        checks.sentence("its number less that of the one before (modulo 256 to the U; the first as it is)");
        checks.duePacked("one byte, below 0", difference(1, 5, 4), 1, "1 5 255");
        checks.duePacked("one byte, to the highest", difference(1, 0, 255, 0), 1, "2 0 255 1");
        checks.duePacked("the first alone", difference(1, 200), 1, "0 200");
        checks.duePacked("none at all", difference(1), 1, "");
        checks.duePacked("two bytes, below 0", difference(2, 0, 0, 255, 255, 0, 0), 1, "2 0 0 255 255 0 1");
        checks.duePacked("two bytes borrow", difference(2, 1, 0, 0, 255), 1, "1 1 0 255 255");
        checks.duePacked("four bytes, below 0", difference(4, 0, 0, 0, 1, 0, 0, 0, 0), 1,
                "1 0 0 0 1 255 255 255 255");
        checks.duePacked("four bytes borrow", difference(4, 1, 0, 0, 0, 0, 255, 255, 255, 128, 0, 0, 0), 1,
                "2 1 0 0 0 255 255 255 255 127 0 0 1");
        checks.duePacked("like ones become a run of 0", difference(1, 9, 9, 9, 9, 9), 1, "0 9 253 0");
        checks.duePacked("255 and -1 are like ones", difference(1, 0, 255, 254, 253, 252), 1, "0 0 253 255");
        checks.duePacked("so are 65535 and -1", difference(2, 0, 0, 255, 255, 255, 254, 255, 253), 1,
                "0 0 0 254 255 255");
        checks.duePacked("and of four bytes", difference(4, 255, 255, 255, 255, 255, 255, 255, 254), 1,
                "255 255 255 255 255");
        RunForms x = Made.with(Made.source(0, 5, 12, 12), 2, 7, 3, 1);
        checks.duePacked("a difference may be the MARK", x, "5 7 1 7 0 7 0");
    }

    private static RunForms difference(int unitBytes, int... bytes) {
        return Made.with(Made.source(1, bytes), 0, unitBytes, 3, 1);
    }

    private static void differencesAddedUp() {
        checks.sentence("opened ones are added up again");
        checks.dueOpened("beyond 255", sum(1, 2, 200, 100, 255), "200 44 43");
        checks.dueOpened("two bytes carry", sum(2, 1, 0, 255, 0, 1), "0 255 1 0");
        checks.dueOpened("two bytes beyond", sum(2, 1, 255, 255, 0, 2), "255 255 0 1");
        checks.dueOpened("four bytes carry", sum(4, 1, 0, 255, 255, 255, 0, 0, 0, 1), "0 255 255 255 1 0 0 0");
        checks.dueOpened("four bytes beyond", sum(4, 1, 255, 255, 255, 255, 0, 0, 0, 2), "255 255 255 255 0 0 0 1");
        checks.dueOpened("a run adds up", sum(1, 254, 100), "100 200 44");
        checks.dueOpened("none", sum(1), "");
        RunForms x = Made.with(Made.code(0, 10, 0, 3, 255, 0, 0), 3, 1);
        checks.dueOpened("marked", x, "10 9 8 7");
        Made.with(x, 3, 0);
        checks.dueOpened("not without DIFFERENCES", x, "10 255 255 255");
    }

    private static RunForms sum(int unitBytes, int... code) {
        return Made.with(Made.code(1, code), 0, unitBytes, 3, 1);
    }

    private static void due(String what, long got, long want) {
        checks.due(what, got, want);
    }

    private static void due(String what, String got, String want) {
        checks.due(what, got, want);
    }
}
