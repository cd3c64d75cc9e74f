/** Each promise of the document by hand: ordinary inputs, the edges that it names, wrong inputs. */
public final class PromisesTest {
    private static final int BAD = -1, FULL = -2, STATE = -3;
    private static final Checks checks = new Checks("PromisesTest");

    public static void main(String[] args) {
        newObject();
        octet();
        repeat();
        code();
        cut();
        rule();
        packMarked();
        packSigned();
        packRows();
        packRefused();
        size();
        openMarked();
        openSigned();
        openRows();
        openDifferences();
        fault();
        plainMarked();
        plainSigned();
        plainRows();
        plainRefused();
        out();
        at();
        unit();
        bound();
        told();
        checks.end();
    }

    // ---- promise 1

    private static void newObject() {
        int[][] forms = {{0, 0}, {1, 1}, {2, 2}, {3, 0}, {-1, 0}, {Integer.MIN_VALUE, 0}, {Integer.MAX_VALUE, 0}};
        for (int[] f : forms) {
            RunForms x = new RunForms(f[0]);
            due("1 form " + f[0], x.told(0), f[1]);
            for (int what = 1; what <= 4; what++) {
                due("1 told " + what, x.told(what), 0);
            }
            due("1 fault", x.fault(), 0);
            due("1 no SOURCE", x.at(0, 0), BAD);
            due("1 no CODE", x.at(1, 0), BAD);
            dueNoByte("1 no PLAIN", x, 0);
        }
        RunForms x = new RunForms(0);
        due("1 U", x.rule(0, 1), 1);
        due("1 W", x.rule(1, 8), 8);
        due("1 M", x.rule(2, 0), 0);
        due("1 DIFFERENCES", x.rule(3, 0), 0);
    }

    // ---- promises 2 to 6

    private static void octet() {
        RunForms x = new RunForms(0);
        due("2 lowest", x.octet(0), 1);
        due("2 highest", x.octet(255), 2);
        due("2 below", x.octet(-1), BAD);
        due("2 above", x.octet(256), BAD);
        due("2 kept", x.told(1), 2);
        due("2 its byte", x.at(0, 1), 255);
        x.repeat(237, 1);
        due("2 last", x.octet(9), 240);
        due("2 full", x.octet(9), FULL);
        due("2 bad ahead of full", x.octet(256), BAD);
        due("2 stays", x.told(1), 240);
    }

    private static void repeat() {
        RunForms x = new RunForms(1);
        due("3 one", x.repeat(1, 5), 1);
        due("3 more", x.repeat(3, 255), 4);
        due("3 bytes", bytes(x, 0), "5 255 255 255");
        due("3 none", x.repeat(0, 5), BAD);
        due("3 below", x.repeat(-1, 5), BAD);
        due("3 too many", x.repeat(241, 5), BAD);
        due("3 byte below", x.repeat(2, -1), BAD);
        due("3 byte above", x.repeat(2, 256), BAD);
        due("3 not all", x.repeat(237, 5), FULL);
        due("3 stays", x.told(1), 4);
        due("3 just all", x.repeat(236, 5), 240);
        due("3 full", x.repeat(1, 5), FULL);
        due("3 bad ahead of full", x.repeat(241, 5), BAD);
        due("3 all at once", new RunForms(0).repeat(240, 0), 240);
    }

    private static void code() {
        RunForms x = new RunForms(2);
        due("4 lowest", x.code(0), 1);
        due("4 highest", x.code(255), 2);
        due("4 below", x.code(-1), BAD);
        due("4 above", x.code(256), BAD);
        due("4 bytes", bytes(x, 1), "0 255");
        x.rule(1, 1);
        x.repeat(240, 9);
        due("4 the longest pack", x.pack(0), 962);
        for (int n = 963; n <= 1000; n++) {
            due("4 more", x.code(1), n);
        }
        due("4 full", x.code(1), FULL);
        due("4 bad ahead of full", x.code(256), BAD);
        due("4 stays", x.told(2), 1000);
    }

    private static void cut() {
        RunForms x = withSource(0, 1, 2, 3);
        codes(x, 4, 5);
        due("5 none went", x.cut(0, 3), 0);
        due("5 one went", x.cut(0, 2), 1);
        due("5 SOURCE", bytes(x, 0), "1 2");
        due("5 CODE stays", bytes(x, 1), "4 5");
        due("5 CODE", x.cut(1, 1), 1);
        due("5 CODE's bytes", bytes(x, 1), "4");
        due("5 more than there is", x.cut(0, 3), BAD);
        due("5 below", x.cut(0, -1), BAD);
        due("5 which below", x.cut(-1, 0), BAD);
        due("5 which above", x.cut(2, 0), BAD);
        due("5 all", x.cut(0, 0), 2);
        due("5 of nothing", x.cut(0, 0), 0);
    }

    private static void rule() {
        RunForms x = new RunForms(0);
        due("6 U", x.rule(0, 4), 1);
        due("6 U again", x.rule(0, 2), 4);
        due("6 U was", x.rule(0, 1), 2);
        int[][] bad = {{0, 0}, {0, 3}, {0, 5}, {0, 8}, {0, -1}, {1, 0}, {1, 61}, {2, -1}, {2, 256}, {3, -1}, {3, 2},
            {4, 1}, {-1, 1}, {Integer.MAX_VALUE, 1}};
        for (int[] b : bad) {
            due("6 bad " + b[0] + " " + b[1], x.rule(b[0], b[1]), BAD);
        }
        due("6 W least", x.rule(1, 1), 8);
        due("6 W most", x.rule(1, 60), 1);
        due("6 W was", x.rule(1, 8), 60);
        due("6 M most", x.rule(2, 255), 0);
        due("6 M was", x.rule(2, 0), 255);
        due("6 D", x.rule(3, 1), 0);
        due("6 D was", x.rule(3, 0), 1);
        RunForms rows = new RunForms(2);
        due("6 U of rows", rows.rule(0, 1), STATE);
        due("6 D of rows", rows.rule(3, 0), STATE);
        due("6 bad U of rows", rows.rule(0, 3), BAD);
        due("6 bad D of rows", rows.rule(3, 2), BAD);
        due("6 W of rows", rows.rule(1, 3), 8);
        due("6 M of rows", rows.rule(2, 3), 0);
    }

    // ---- promise 7

    private static void packMarked() {
        RunForms x = new RunForms(0);
        duePacked("7 nothing", x, 0, "0 0");
        duePacked("7 nothing in fewest", x, 1, "0 0");
        x = withSource(0, 5, 5, 5, 6, 6, 6, 6);
        duePacked("7 three stay, four are a run", x, 0, "5 5 5 0 4 6 0 0");
        duePacked("7 fewest alike", x, 1, "5 5 5 0 4 6 0 0");
        x = withSource(0, 0, 7, 0, 0);
        duePacked("7 marks are runs", x, 0, "0 1 0 7 0 2 0 0 0");
        duePacked("7 marks in fewest", x, 1, "0 1 0 7 0 2 0 0 0");
        x.rule(2, 7);
        duePacked("7 another mark", x, 0, "0 7 1 7 0 0 7 0");
        x = withSource(0, 1, 0, 1, 0, 9, 9, 9, 9, 9, 9);
        x.rule(0, 2);
        duePacked("7 two like units stay, three are a run", x, 0, "1 0 1 0 0 3 9 9 0 0");
        x = withSource(0, 0, 1, 1, 0);
        x.rule(0, 2);
        duePacked("7 only a unit's first byte is a mark", x, 1, "0 1 0 1 1 0 0 0");
        x = withSource(0, 1, 2, 3, 4, 1, 2, 3, 4);
        x.rule(0, 4);
        duePacked("7 two like units of four, greedy", x, 0, "0 2 1 2 3 4 0 0");
        duePacked("7 two like units of four, fewest", x, 1, "0 2 1 2 3 4 0 0");
        x = new RunForms(0);
        x.repeat(240, 3);
        duePacked("7 the longest run", x, 0, "0 240 3 0 0");
        x = withSource(0, 10, 11, 12, 13, 14, 14);
        x.rule(3, 1);
        duePacked("7 differences", x, 0, "10 0 4 1 0 1 0 0 0");
        x = withSource(0, 0, 5, 0, 3, 255, 255, 0, 1);
        x.rule(0, 2);
        x.rule(2, 255);
        x.rule(3, 1);
        duePacked("7 differences wrap", x, 1, "0 5 255 1 255 254 255 1 255 252 0 2 255 0");
        x = withSource(0, 1, 0, 0, 0, 0, 255, 255, 255, 0, 255, 255, 254);
        x.rule(0, 4);
        x.rule(3, 1);
        x.rule(2, 7);
        duePacked("7 differences of four bytes", x, 0, "1 0 0 0 7 2 255 255 255 255 7 0");
    }

    private static void packSigned() {
        RunForms x = new RunForms(1);
        duePacked("7 signed nothing", x, 0, "");
        duePacked("7 signed nothing in fewest", x, 1, "");
        x = withSource(1, 1, 2, 2, 3);
        duePacked("7 signed greedy", x, 0, "0 1 255 2 0 3");
        duePacked("7 signed fewest", x, 1, "3 1 2 2 3");
        x = withSource(1, 1, 2, 2);
        duePacked("7 a tie goes to more by themselves", x, 1, "2 1 2 2");
        x = withSource(1, 2, 2, 2, 2);
        duePacked("7 signed run", x, 1, "253 2");
        x = withSource(1, 2, 2, 1);
        duePacked("7 a tie from the left", x, 1, "2 2 2 1");
        x = withSource(1, 1, 2, 1, 2, 5, 6);
        x.rule(0, 2);
        duePacked("7 signed units", x, 1, "255 1 2 0 5 6");
        x = new RunForms(1);
        x.repeat(129, 7);
        duePacked("7 signed run of 128 at most", x, 0, "129 7 0 7");
        duePacked("7 signed fewest of 129", x, 1, "0 7 129 7");
        x.repeat(1, 7);
        duePacked("7 signed two runs", x, 0, "129 7 255 7");
        x = new RunForms(1);
        for (int k = 0; k < 130; k++) {
            x.octet(k);
        }
        due("7 128 by themselves at most", x.pack(0), 132);
        due("7 the first 128", x.at(1, 0), 127);
        due("7 the other two", x.at(1, 129), 1);
        due("7 so the fewest, too", x.pack(1), 132);
        due("7 more of them first", x.at(1, 0), 127);
        x = withSource(1, 3, 5, 7, 9, 0);
        x.rule(3, 1);
        duePacked("7 signed differences", x, 0, "0 3 254 2 0 247");
    }

    private static void packRows() {
        RunForms x = rows(4);
        duePacked("7 no rows", x, 0, "0 1");
        duePacked("7 no rows in fewest", x, 1, "0 1");
        x = rows(4, 0, 0, 0, 0, 5, 5, 5, 5);
        duePacked("7 an empty row, a run", x, 0, "0 0 4 5 0 0 0 1");
        duePacked("7 an empty row, a run in fewest", x, 1, "0 0 4 5 0 0 0 1");
        x = rows(4, 5, 6, 0, 0);
        duePacked("7 two bytes are runs", x, 0, "1 5 1 6 0 0 0 1");
        x = rows(4, 1, 2, 3, 4);
        duePacked("7 four by themselves", x, 0, "0 4 1 2 3 4 0 0 0 1");
        x = rows(5, 1, 2, 3, 0, 0);
        duePacked("7 up to where the row may end", x, 0, "0 3 1 2 3 0 0 0 0 1");
        duePacked("7 one zero more for nothing", x, 1, "0 4 1 2 3 0 0 0 0 1");
        x = rows(5, 5, 5, 6, 6, 6);
        duePacked("7 two ahead of three like ones", x, 0, "1 5 1 5 3 6 0 0 0 1");
        duePacked("7 in fewest they are a run", x, 1, "2 5 3 6 0 0 0 1");
        x = rows(6, 1, 1, 2, 3, 3, 3);
        duePacked("7 three ahead of three like ones", x, 0, "0 3 1 1 2 0 3 3 0 0 0 1");
        duePacked("7 runs are shorter", x, 1, "2 1 1 2 3 3 0 0 0 1");
        x = rows(3, 1, 2, 3);
        duePacked("7 by themselves ahead of runs", x, 1, "0 3 1 2 3 0 0 0 0 1");
        x = rows(2, 5, 5, 5, 5);
        duePacked("7 no run crosses rows", x, 1, "2 5 0 0 2 5 0 0 0 1");
        x = rows(6, 0, 0, 0, 7, 0, 0);
        duePacked("7 zeros ahead are a run", x, 0, "3 0 1 7 0 0 0 1");
        x = rows(60);
        x.repeat(60, 8);
        duePacked("7 the widest row", x, 1, "60 8 0 0 0 1");
    }

    private static void packRefused() {
        RunForms x = withSource(0, 1, 2, 3);
        codes(x, 9);
        due("7 how below", x.pack(-1), BAD);
        due("7 how above", x.pack(2), BAD);
        x.rule(0, 2);
        due("7 not whole units", x.pack(0), STATE);
        due("7 bad ahead of state", x.pack(2), BAD);
        due("7 CODE stays", bytes(x, 1), "9");
        x = rows(2, 1, 2, 3);
        due("7 not whole rows", x.pack(1), STATE);
        due("7 rows stay", x.told(2), 0);
    }

    // ---- promise 8

    private static void size() {
        RunForms x = withSource(1, 1, 2, 2, 3);
        codes(x, 9);
        due("8 greedy", x.size(0), 6);
        due("8 fewest", x.size(1), 5);
        due("8 CODE stays", bytes(x, 1), "9");
        due("8 SOURCE stays", bytes(x, 0), "1 2 2 3");
        due("8 how below", x.size(-1), BAD);
        due("8 how above", x.size(2), BAD);
        x.rule(0, 4);
        due("8 whole", x.size(1), 5);
        x.octet(1);
        due("8 not whole", x.size(1), STATE);
        due("8 bad ahead of state", x.size(2), BAD);
        due("8 not whole rows", rows(2, 1).size(0), STATE);
        due("8 nothing", new RunForms(0).size(1), 2);
    }

    // ---- promises 9 and 10

    private static void openMarked() {
        dueOpened("9 units and runs", withCode(0, 5, 0, 3, 6, 7, 0, 0), "5 6 6 6 7");
        dueOpened("9 only END", withCode(0, 0, 0), "");
        dueOpened("9 a run of 1", withCode(0, 0, 1, 0, 0, 0), "0");
        dueOpened("9 a run of 240", withCode(0, 0, 240, 4, 0, 0), "4 ".repeat(240).trim());
        dueFault("9 no code", withCode(0), 1, 0);
        dueFault("9 no END", withCode(0, 5), 1, 1);
        dueFault("9 half an END", withCode(0, 5, 0), 2, 1);
        dueFault("9 a run without a unit", withCode(0, 5, 0, 9), 2, 1);
        dueFault("9 room for a run", withCode(0, 0, 241, 4, 0, 0), 4, 0);
        dueFault("9 room for a unit", withCode(0, 0, 240, 4, 5, 0, 0), 4, 3);
        dueFault("9 behind END", withCode(0, 5, 0, 0, 1, 2), 5, 3);
        RunForms x = withCode(0, 1, 2, 0, 2, 0, 3, 0, 0);
        x.rule(0, 2);
        dueOpened("9 units of two", x, "1 2 0 3 0 3");
        x = withCode(0, 1, 2, 3);
        x.rule(0, 2);
        dueFault("9 a unit that lacks", x, 2, 2);
        x = withCode(0, 0, 1, 3);
        x.rule(0, 2);
        dueFault("9 a run's unit that lacks", x, 2, 0);
        x = withCode(0, 0, 61, 1, 2, 3);
        x.rule(0, 4);
        dueFault("9 lacks ahead of room", x, 2, 0);
        codes(x, 4);
        dueFault("9 then room", x, 4, 0);
        x = withCode(0, 0, 9, 0);
        x.rule(2, 9);
        dueOpened("9 another mark", x, "0");
    }

    private static void openSigned() {
        dueOpened("9 signed", withCode(1, 1, 5, 6, 255, 7, 128, 0, 8), "5 6 7 7 8");
        dueOpened("9 signed nothing", withCode(1), "");
        dueOpened("9 nothing stands for nothing", withCode(1, 128, 128), "");
        dueOpened("9 the longest signed run", withCode(1, 129, 4), "4 ".repeat(128).trim());
        dueFault("9 signed lacks", withCode(1, 0, 1, 2, 1, 2), 2, 2);
        dueFault("9 signed run lacks", withCode(1, 128, 255), 2, 1);
        dueFault("9 signed room", withCode(1, 129, 4, 145, 5, 0, 6), 4, 4);
        dueOpened("9 signed just room", withCode(1, 129, 4, 145, 5), "4 ".repeat(128) + "5 ".repeat(112).trim());
        RunForms x = withCode(1, 254, 1, 2, 0, 3, 4);
        x.rule(0, 2);
        dueOpened("9 signed units", x, "1 2 1 2 1 2 3 4");
    }

    private static void openRows() {
        dueOpened("9 rows", rowCode(4, 2, 5, 0, 0, 0, 3, 1, 2, 3, 9, 0, 0, 0, 1), "5 5 0 0 1 2 3 0");
        dueOpened("9 END counts the row begun", rowCode(4, 0, 0, 1, 5, 0, 1), "0 0 0 0 5 0 0 0");
        dueOpened("9 END of no row", rowCode(4, 0, 1), "");
        dueOpened("9 going on puts nothing", rowCode(4, 1, 5, 0, 2, 1, 2, 0, 1), "5 0 0 0");
        dueOpened("9 going on keeps the column", rowCode(3, 1, 5, 0, 2, 1, 1, 1, 6, 0, 1), "5 0 0 0 0 6");
        dueOpened("9 going on to W itself", rowCode(3, 0, 2, 3, 0, 0, 0, 0, 1), "0 0 0");
        dueOpened("9 going on beyond all rows", rowCode(60, 0, 2, 60, 255, 0, 1), "");
        dueFault("9 rows without END", rowCode(4, 0, 0), 1, 2);
        dueFault("9 no rows' code", rowCode(4), 1, 0);
        dueFault("9 half a pair", rowCode(4, 0, 0, 3), 2, 2);
        dueFault("9 going on lacks", rowCode(4, 0, 2, 1), 2, 0);
        dueFault("9 bytes lack", rowCode(4, 0, 4, 1, 2, 3), 2, 0);
        dueFault("9 the byte more lacks", rowCode(4, 0, 3, 1, 2, 3), 2, 0);
        dueFault("9 lacks ahead of past", rowCode(4, 0, 5, 1), 2, 0);
        dueFault("9 a run past W", rowCode(4, 1, 1, 4, 5, 0, 1), 3, 2);
        dueFault("9 bytes past W", rowCode(4, 2, 1, 0, 3, 1, 2, 3, 0, 0, 1), 3, 2);
        dueFault("9 going on past W", rowCode(4, 2, 1, 0, 2, 3, 0, 0, 1), 3, 2);
        dueFault("9 past ahead of room", rowCode(60, 0, 2, 0, 4, 61, 1, 0, 1), 3, 4);
        dueFault("9 a byte without room", rowCode(60, 0, 2, 0, 4, 1, 1, 0, 1), 4, 4);
        dueFault("9 bytes without room", rowCode(60, 0, 2, 0, 4, 0, 4, 1, 2, 3, 4, 0, 1), 4, 4);
        dueFault("9 a row's END without room", rowCode(60, 0, 2, 0, 4, 0, 0, 0, 1), 4, 4);
        dueFault("9 a row must go wholly in", rowCode(7, 0, 2, 0, 34, 1, 1, 0, 1), 4, 4);
        RunForms x = rowCode(7, 0, 2, 0, 33, 1, 1, 0, 1);
        due("9 the last that goes in", x.open(), 238);
        due("9 its byte", x.at(0, 231), 1);
        dueFault("9 behind the rows' END", rowCode(4, 0, 1, 0), 5, 2);
        x = rowCode(4, 4, 9, 0, 1);
        x.open();
        x.cut(1, 0);
        codes(x, 0, 0, 0, 1);
        dueOpened("9 an earlier open leaves nothing", x, "0 0 0 0");
    }

    private static void openDifferences() {
        RunForms x = withCode(0, 10, 0, 3, 255, 0, 0);
        x.rule(3, 1);
        dueOpened("9 differences added up", x, "10 9 8 7");
        x = withCode(1, 255, 255, 255);
        x.rule(0, 2);
        x.rule(3, 1);
        dueOpened("9 differences of two bytes", x, "255 255 255 254");
        x = withCode(1, 255, 128, 0, 0, 1);
        x.rule(0, 4);
        x.rule(3, 1);
        dueOpened("9 differences of four bytes", x, "128 0 0 1 0 0 0 2");
    }

    private static void fault() {
        RunForms x = withCode(0, 5);
        due("10 no open yet", x.fault(), 0);
        due("10 open", x.open(), -11);
        due("10 fault", x.fault(), 1);
        codes(x, 0, 0);
        due("10 the latest open's", x.fault(), 1);
        due("10 opens", x.open(), 1);
        due("10 none", x.fault(), 0);
    }

    // ---- promises 11 and 12

    private static void plainMarked() {
        RunForms x = withCode(0, 200, 0, 3, 6, 0, 0, 7, 7);
        duePlain("11 what is behind END", x, 5, 0, 4, "-56 6 6 6 0");
        duePlain("11 just room", x, 4, 0, 4, "-56 6 6 6");
        duePlain("11 a run fails unit by unit", x, 3, 1, 3, "-56 6 6");
        duePlain("11 no room", x, 0, 1, 0, "");
        x = withCode(0, 1, 2, 0, 2, 3, 4, 0, 0);
        x.rule(0, 2);
        duePlain("11 a unit goes wholly or not", x, 5, 1, 4, "1 2 3 4 0");
        x.rule(3, 1);
        duePlain("11 no differences", x, 6, 0, 6, "1 2 3 4 3 4");
        duePlain("11 no END", withCode(0, 5), 9, 1, 1, "5 0 0 0 0 0 0 0 0");
        duePlain("11 half an END", withCode(0, 5, 0), 2, 1, 1, "5 0");
        duePlain("11 a run that lacks", withCode(0, 0, 2), 2, 1, 0, "0 0");
        duePlain("11 no code", withCode(0), 2, 1, 0, "0 0");
        x = withCode(0, 0, 255, 4, 0, 0);
        due("11 beyond 240", x.plain(400), 0);
        due("11 its reach", x.told(4), 255);
        x = withCode(0, 5, 0, 0);
        x.cut(1, 1);
        duePlain("11 CODE has its own length", x, 2, 1, 1, "5 0");
        x = withCode(0, 1, 2, 3);
        x.rule(0, 2);
        duePlain("11 half a unit is not read", x, 4, 1, 2, "1 2 0 0");
    }

    private static void plainSigned() {
        RunForms x = withCode(1, 2, 1, 2, 3, 128, 255, 255);
        duePlain("11 signed", x, 6, 0, 5, "1 2 3 -1 -1 0");
        duePlain("11 all by themselves by one", x, 2, 1, 0, "0 0");
        duePlain("11 a signed run one by one", x, 4, 1, 4, "1 2 3 -1");
        duePlain("11 signed nothing", withCode(1), 0, 0, 0, "");
        duePlain("11 signed lacks", withCode(1, 0, 1, 2, 1, 2), 4, 1, 1, "1 0 0 0");
        duePlain("11 signed run lacks", withCode(1, 255), 2, 1, 0, "0 0");
        x = withCode(1, 255, 1, 2, 0, 3, 4);
        x.rule(0, 2);
        duePlain("11 signed units", x, 6, 0, 6, "1 2 1 2 3 4");
        duePlain("11 signed unit wholly", x, 3, 1, 2, "1 2 0");
    }

    private static void plainRows() {
        RunForms x = rowCode(3, 5, 1, 0, 0, 1, 2, 0, 1, 9);
        duePlain("11 a run beyond W, written over", x, 5, 0, 5, "1 1 1 2 1");
        duePlain("11 bytes one by one", x, 4, 1, 4, "1 1 1 1");
        x = rowCode(3, 0, 3, 1, 2, 3, 0, 0, 2, 2, 1, 1, 4, 0, 1);
        duePlain("11 going on beyond W", x, 9, 0, 9, "1 2 3 0 0 0 0 0 4");
        duePlain("11 where there is nothing", x, 8, 1, 3, "1 2 3 0 0 0 0 0");
        duePlain("11 bytes by one copy", x, 2, 1, 0, "0 0");
        duePlain("11 no pair", rowCode(3, 1), 2, 1, 0, "0 0");
        duePlain("11 rows without END", rowCode(3, 1, 7), 2, 1, 1, "7 0");
        duePlain("11 going on lacks", rowCode(3, 0, 2, 1), 2, 1, 0, "0 0");
        duePlain("11 bytes lack", rowCode(3, 0, 3, 1, 2), 4, 1, 0, "0 0 0 0");
        duePlain("11 the byte more lacks", rowCode(3, 0, 3, 1, 2, 3), 4, 1, 3, "1 2 3 0");
        duePlain("11 row ENDs put nothing", rowCode(3, 0, 0, 0, 0, 0, 1), 2, 0, 0, "0 0");
        duePlain("11 a zero that is put counts", rowCode(3, 2, 0, 0, 1), 3, 0, 2, "0 0 0");
    }

    private static void plainRefused() {
        RunForms x = withCode(0, 5, 0, 0);
        x.plain(2);
        due("11 above 400", x.plain(401), BAD);
        due("11 far above", x.plain(Integer.MAX_VALUE), BAD);
        due("11 PLAIN stays", plainBytes(x), "5 0");
        due("11 its reach stays", x.told(4), 1);
        due("11 400", x.plain(400), 0);
        due("11 400 bytes", x.told(3), 400);
        duePlain("11 below 0", x, -1, 2, 0, "");
        duePlain("11 far below 0", x, Integer.MIN_VALUE, 2, 0, "");
    }

    private static void out() {
        RunForms x = withCode(0, 127, 128, 255, 0, 0);
        dueNoByte("12 ahead of plain", x, 0);
        x.plain(4);
        due("12 127", x.out(0), 127);
        due("12 128", x.out(1), -128);
        due("12 255", x.out(2), -1);
        due("12 not put", x.out(3), 0);
        dueNoByte("12 behind all", x, 4);
        dueNoByte("12 below", x, -1);
        dueNoByte("12 far above", x, Integer.MAX_VALUE);
        dueNoByte("12 far below", x, Integer.MIN_VALUE);
        x.cut(1, 0);
        due("12 PLAIN is its own", x.out(0), 127);
        x.plain(-3);
        dueNoByte("12 none at all", x, 0);
    }

    // ---- promises 13 to 16

    private static void at() {
        RunForms x = withSource(0, 0, 255);
        codes(x, 128);
        due("13 SOURCE", x.at(0, 0), 0);
        due("13 its last", x.at(0, 1), 255);
        due("13 CODE", x.at(1, 0), 128);
        due("13 behind SOURCE", x.at(0, 2), BAD);
        due("13 behind CODE", x.at(1, 1), BAD);
        due("13 below", x.at(0, -1), BAD);
        due("13 far above", x.at(0, Integer.MAX_VALUE), BAD);
        due("13 which below", x.at(-1, 0), BAD);
        due("13 which above", x.at(2, 0), BAD);
    }

    private static void unit() {
        RunForms x = withSource(0, 255, 254, 253, 252, 1, 2, 3);
        due("14 one byte", x.unit(6), 3);
        due("14 none", x.unit(7), BAD);
        x.rule(0, 2);
        due("14 two bytes", x.unit(0), 65534);
        due("14 the last whole one", x.unit(2), 258);
        due("14 not wholly", x.unit(3), BAD);
        x.rule(0, 4);
        x.rule(3, 1);
        due("14 four bytes, without sign", x.unit(0), 4294901244L);
        due("14 four, not wholly", x.unit(1), BAD);
        due("14 below", x.unit(-1), BAD);
        due("14 far below", x.unit(Integer.MIN_VALUE), BAD);
        due("14 where i U passes an int", x.unit(1 << 30), BAD);
        due("14 far above", x.unit(Integer.MAX_VALUE), BAD);
    }

    private static void bound() {
        RunForms x = new RunForms(0);
        due("15 nothing", x.bound(0), 2);
        due("15 all", x.bound(240), 722);
        due("15 above", x.bound(241), BAD);
        due("15 below", x.bound(-1), BAD);
        due("15 far below", x.bound(Integer.MIN_VALUE), BAD);
        x.rule(0, 4);
        due("15 units", x.bound(8), 14);
        due("15 not whole", x.bound(6), BAD);
        x = new RunForms(1);
        due("15 signed nothing", x.bound(0), 0);
        due("15 signed one", x.bound(1), 2);
        due("15 signed 128", x.bound(128), 129);
        due("15 signed 129", x.bound(129), 131);
        x.rule(0, 2);
        due("15 signed units", x.bound(240), 241);
        due("15 signed not whole", x.bound(129), BAD);
        int[][] rows = {{1, 6}, {2, 8}, {3, 10}, {4, 10}, {5, 12}, {6, 12}, {7, 14}, {60, 66}};
        for (int[] r : rows) {
            x = rows(r[0]);
            due("15 a row of " + r[0], x.bound(r[0]), r[1]);
            due("15 two rows of " + r[0], x.bound(2 * r[0]), 2 * r[1] - 2);
            due("15 no rows of " + r[0], x.bound(0), 2);
        }
        due("15 not whole rows", rows(2).bound(3), BAD);
    }

    private static void told() {
        RunForms x = rowCode(5, 2, 9, 0, 1);
        x.repeat(3, 1);
        x.plain(7);
        due("16 FORM", x.told(0), 2);
        due("16 SOURCE", x.told(1), 3);
        due("16 CODE", x.told(2), 4);
        due("16 PLAIN", x.told(3), 7);
        due("16 the greatest place", x.told(4), 2);
        due("16 above", x.told(5), BAD);
        due("16 below", x.told(-1), BAD);
        x.cut(1, 0);
        x.plain(7);
        due("16 none was put", x.told(4), 0);
    }

    // ---- means

    private static RunForms withSource(int form, int... bytes) {
        RunForms x = new RunForms(form);
        for (int b : bytes) {
            x.octet(b);
        }
        return x;
    }

    private static RunForms rows(int width, int... bytes) {
        RunForms x = withSource(2, bytes);
        x.rule(1, width);
        return x;
    }

    private static RunForms withCode(int form, int... bytes) {
        RunForms x = new RunForms(form);
        codes(x, bytes);
        return x;
    }

    private static RunForms rowCode(int width, int... bytes) {
        RunForms x = withCode(2, bytes);
        x.rule(1, width);
        return x;
    }

    private static void codes(RunForms x, int... bytes) {
        for (int b : bytes) {
            x.code(b);
        }
    }

    private static String bytes(RunForms x, int which) {
        StringBuilder all = new StringBuilder();
        for (int i = 0; i < x.told(1 + which); i++) {
            all.append(i == 0 ? "" : " ").append(x.at(which, i));
        }
        return all.toString();
    }

    private static String plainBytes(RunForms x) {
        StringBuilder all = new StringBuilder();
        for (int i = 0; i < x.told(3); i++) {
            all.append(i == 0 ? "" : " ").append(x.out(i));
        }
        return all.toString();
    }

    private static void duePacked(String what, RunForms x, int how, String code) {
        int length = code.isEmpty() ? 0 : code.split(" ").length;
        String source = bytes(x, 0);
        due(what + ", size", x.size(how), length);
        due(what + ", length", x.pack(how), length);
        due(what, bytes(x, 1), code);
        due(what + ", SOURCE stays", bytes(x, 0), source);
        x.open();
        due(what + ", opened again", bytes(x, 0), source);
    }

    private static void dueOpened(String what, RunForms x, String source) {
        String code = bytes(x, 1);
        due(what + ", how many", x.open(), source.isEmpty() ? 0 : source.split(" ").length);
        due(what, bytes(x, 0), source);
        due(what + ", no fault", x.fault(), 0);
        due(what + ", CODE stays", bytes(x, 1), code);
    }

    private static void dueFault(String what, RunForms x, int fault, int place) {
        x.octet(77);
        String source = bytes(x, 0);
        due(what + ", place", x.open(), -10 - place);
        due(what, x.fault(), fault);
        due(what + ", SOURCE stays", bytes(x, 0), source);
    }

    private static void duePlain(String what, RunForms x, int n, int why, int reach, String bytes) {
        due(what + ", why", x.plain(n), why);
        due(what + ", reach", x.told(4), reach);
        due(what + ", bytes", x.told(3), Math.max(0, n));
        due(what, plainBytes(x), bytes);
        dueNoByte(what + ", behind", x, Math.max(0, n));
    }

    private static void dueNoByte(String what, RunForms x, int i) {
        int thrown = 0;
        try {
            x.out(i);
        } catch (ArrayIndexOutOfBoundsException e) {
            thrown = 1;
        }
        due(what + ": throws", thrown, 1);
    }

    private static void due(String what, long got, long want) {
        checks.due(what, got, want);
    }

    private static void due(String what, String got, String want) {
        checks.due(what, got, want);
    }
}
