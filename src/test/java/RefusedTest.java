import java.util.function.Supplier;
import java.util.function.ToLongFunction;

/** The end of 'Terms': what is refused, with which answer, and that it changes nothing. */
public final class RefusedTest {
    private static final RunChecks checks = new RunChecks("RefusedTest");
    private static final int[] WRONG = {Integer.MIN_VALUE, -1, Integer.MAX_VALUE};

    public static void main(String[] args) {
        constants();
        bad();
        badReads();
        badRules();
        full();
        fullCode();
        state();
        faulty();
        checks.end();
    }

    private static void constants() {
        checks.sentence("BAD is -1: a number is not as told; FULL -2; STATE -3");
        checks.due("BAD", RunForms.BAD, -1);
        checks.due("FULL", RunForms.FULL, -2);
        checks.due("STATE", RunForms.STATE, -3);
    }

    private static void bad() {
        checks.sentence("BAD is -1: a number is not as told");
        for (int wrong : WRONG) {
            refusesBad("octet " + wrong, x -> x.octet(wrong));
            refusesBad("repeat so many: " + wrong, x -> x.repeat(wrong, 1));
            refusesBad("repeat byte " + wrong, x -> x.repeat(1, wrong));
            refusesBad("code " + wrong, x -> x.code(wrong));
            refusesBad("cut which " + wrong, x -> x.cut(wrong, 0));
            refusesBad("cut SOURCE to " + wrong, x -> x.cut(0, wrong));
            refusesBad("cut CODE to " + wrong, x -> x.cut(1, wrong));
            refusesBad("pack " + wrong, x -> x.pack(wrong));
            refusesBad("size " + wrong, x -> x.size(wrong));
        }
        refusesBad("octet 256", x -> x.octet(256));
        refusesBad("repeat none", x -> x.repeat(0, 1));
        refusesBad("repeat 241", x -> x.repeat(241, 1));
        refusesBad("repeat byte 256", x -> x.repeat(1, 256));
        refusesBad("code 256", x -> x.code(256));
        refusesBad("cut which 2", x -> x.cut(2, 0));
        refusesBad("cut SOURCE to 4 of 3", x -> x.cut(0, 4));
        refusesBad("cut CODE to 6 of 5", x -> x.cut(1, 6));
        refusesBad("pack 2", x -> x.pack(2));
        refusesBad("size 2", x -> x.size(2));
        refusesBad("plain 401", x -> x.plain(401));
        refusesBad("plain far above", x -> x.plain(Integer.MAX_VALUE));
    }

    private static void badReads() {
        checks.sentence("BAD is -1: a number is not as told");
        for (int wrong : WRONG) {
            refusesBad("at which " + wrong, x -> x.at(wrong, 0));
            refusesBad("at SOURCE " + wrong, x -> x.at(0, wrong));
            refusesBad("at CODE " + wrong, x -> x.at(1, wrong));
            refusesBad("unit " + wrong, x -> x.unit(wrong));
            refusesBad("bound " + wrong, x -> x.bound(wrong));
            refusesBad("told " + wrong, x -> x.told(wrong));
        }
        refusesBad("at which 2", x -> x.at(2, 0));
        refusesBad("at SOURCE 3", x -> x.at(0, 3));
        refusesBad("at CODE 5", x -> x.at(1, 5));
        refusesBad("unit 3", x -> x.unit(3));
        refusesBad("bound 241", x -> x.bound(241));
        refusesBad("bound 3", x -> x.bound(3));
        refusesBad("told 5", x -> x.told(5));
        for (int form = 0; form < 3; form++) {
            RunForms x = busy(form);
            checks.dueNoByte("out below", x, -1);
            checks.dueNoByte("out behind all", x, 6);
            checks.due("out, nothing changed", Made.state(x), Made.state(busy(form)));
        }
    }

    private static void badRules() {
        checks.sentence("BAD is -1: a number is not as told");
        int[][] wrong = {{-1, 1}, {4, 1}, {Integer.MIN_VALUE, 1}, {Integer.MAX_VALUE, 1}, {0, 0}, {0, 3}, {0, 5},
            {0, -1}, {1, 0}, {1, 61}, {1, -1}, {2, -1}, {2, 256}, {3, -1}, {3, 2}};
        for (int[] r : wrong) {
            refusesBad("rule " + r[0] + " " + r[1], x -> x.rule(r[0], r[1]));
        }
    }

    private static void full() {
        checks.sentence("FULL -2");
        for (int form = 0; form < 3; form++) {
            int f = form;
            Supplier<RunForms> all = () -> filled(f, 240);
            refuses("octet into none", all, -2, x -> x.octet(1));
            refuses("repeat into none", all, -2, x -> x.repeat(1, 1));
            refuses("repeat 240 into none", all, -2, x -> x.repeat(240, 1));
            refuses("repeat 3 into 2", () -> filled(f, 238), -2, x -> x.repeat(3, 1));
            refuses("repeat 240 into 239", () -> filled(f, 1), -2, x -> x.repeat(240, 1));
            refuses("a wrong byte into none is BAD", all, -1, x -> x.octet(256));
            refuses("a wrong byte many times into none is BAD", all, -1, x -> x.repeat(1, -1));
            refuses("too many into none are BAD", all, -1, x -> x.repeat(241, 1));
        }
    }

    private static void fullCode() {
        checks.sentence("FULL -2");
        RunForms x = Made.rows(1);
        x.repeat(240, 9);
        x.pack(0);
        for (int n = 963; n <= 1000; n++) {
            x.code(n & 255);
        }
        checks.due("code into none", x.code(1), -2);
        checks.due("a wrong byte into none is BAD", x.code(256), -1);
        checks.due("1000 bytes", x.told(2), 1000);
        for (int i = 0; i < 960; i += 8) {
            checks.due("byte " + i, x.at(1, i), 1);
            checks.due("byte behind it", x.at(1, i + 1), 9);
        }
        for (int i = 962; i < 1000; i++) {
            checks.due("byte " + i, x.at(1, i), i + 1 & 255);
        }
    }

    private static void state() {
        checks.sentence("STATE -3");
        for (int form = 0; form < 3; form++) {
            int f = form;
            for (int how = 0; how < 2; how++) {
                int h = how;
                refuses("pack " + how, () -> busy(f), -3, x -> x.pack(h));
                refuses("size " + how, () -> busy(f), -3, x -> x.size(h));
            }
        }
        int[][] rules = {{0, 1}, {0, 2}, {0, 4}, {3, 0}, {3, 1}};
        for (int[] r : rules) {
            refuses("rule " + r[0] + " " + r[1], () -> busy(2), -3, x -> x.rule(r[0], r[1]));
        }
    }

    private static void faulty() {
        checks.sentence("What is refused changes nothing");
        int[][] codes = {{7, 241, 9, 9, 7, 0}, {5, 1}, {0, 2, 9, 9, 0, 1}};
        int[] faults = {4, 2, 3};
        for (int form = 0; form < 3; form++) {
            RunForms x = busy(form);
            RunForms twin = busy(form);
            x.cut(1, 0);
            twin.cut(1, 0);
            Made.codes(x, codes[form]);
            Made.codes(twin, codes[form]);
            checks.due("open() of a FAULT", x.open(), -10);
            checks.due("the FAULT", x.fault(), faults[form]);
            checks.due("all but the FAULT stays", Made.state(x).replaceAll("fault .*", ""),
                    Made.state(twin).replaceAll("fault .*", ""));
        }
    }

    // ---- means

    /** Three bytes, which are not whole UNITS or rows; five of CODE; six of PLAIN; no rule as at first; a FAULT. */
    private static RunForms busy(int form) {
        int[][] codes = {{1, 2, 3, 4, 7}, {0, 1, 2, 1, 3}, {2, 9, 0, 2, 1}};
        RunForms x = Made.with(Made.source(form, 1, 2, 3), 0, 2, 1, 4, 2, 7, 3, 1);
        Made.codes(x, codes[form]);
        x.plain(6);
        x.open();
        return x;
    }

    private static RunForms filled(int form, int bytes) {
        RunForms x = new RunForms(form);
        x.repeat(bytes, 5);
        return x;
    }

    private static void refusesBad(String what, ToLongFunction<RunForms> call) {
        for (int form = 0; form < 3; form++) {
            int f = form;
            refuses(what + " in FORM " + form, () -> busy(f), -1, call);
        }
    }

    /** Beside a twin that was not asked, so that no object needs more than 512 calls. */
    private static void refuses(String what, Supplier<RunForms> made, long answer, ToLongFunction<RunForms> call) {
        RunForms x = made.get();
        checks.due(what, call.applyAsLong(x), answer);
        checks.due(what + ", nothing changed", Made.state(x), Made.state(made.get()));
    }
}
