import java.util.Random;

/** Runs of calls on RunForms and on Model, with the same answers due; the numbers are always the same ones. */
public final class ModelTest {
    private static final int[] ODD = {Integer.MIN_VALUE, Integer.MAX_VALUE, -1, 0, 1, 2, 3, 4, 5, 60, 61, 127, 128,
        129, 239, 240, 241, 255, 256, 399, 400, 401, 536870912, 1073741824};
    private static final int[] WIDTHS = {1, 2, 3, 4, 5, 6, 7, 8, 16, 60};
    private static final Checks checks = new Checks("ModelTest");

    private final Random random;
    private final RunForms x;
    private final Model due;
    private final StringBuilder calls = new StringBuilder();

    private ModelTest(int form, long seed) {
        random = new Random(seed);
        x = new RunForms(form);
        due = new Model(form);
        calls.append("new(").append(form).append(')');
    }

    public static void main(String[] args) {
        for (int form = 0; form < 3; form++) {
            smallSources(form);
            for (int k = 0; k < 500 && !checks.anyWrong(); k++) {
                new ModelTest(form, 1000 * form + k).packsAndOpens();
            }
            for (int k = 0; k < 1500 && !checks.anyWrong(); k++) {
                new ModelTest(form, 100000 * (form + 1) + k).opensAnything();
            }
        }
        for (int k = 0; k < 300 && !checks.anyWrong(); k++) {
            new ModelTest(k % 5 - 1, 7000000 + k).callsAnything();
        }
        checks.end();
    }

    /** Every SOURCE of three bytes' kinds that one can write in six places. */
    private static void smallSources(int form) {
        int[] kinds = {0, 1, 7};
        for (int number = 0; number < 729 && !checks.anyWrong(); number++) {
            ModelTest t = new ModelTest(form, 0);
            t.rule(2, number % 2 == 0 ? 7 : 0);
            t.rule(1, 6);
            for (int k = 0, left = number; k < 6; k++, left /= 3) {
                t.repeat(1, kinds[left % 3]);
            }
            t.packBothAndOpen();
            t.rule(0, 2);
            t.packBothAndOpen();
            t.rule(0, 1);
            t.rule(3, 1);
            t.packBothAndOpen();
        }
    }

    private void packsAndOpens() {
        rule(1, WIDTHS[random.nextInt(WIDTHS.length)]);
        rule(2, random.nextInt(3));
        rule(0, 1 << random.nextInt(3));
        rule(3, random.nextInt(2));
        fillSource(1 + random.nextInt(240));
        packBothAndOpen();
    }

    private void packBothAndOpen() {
        for (int how = 0; how < 2; how++) {
            size(how);
            pack(how);
            compareState();
            open();
            compareState();
            plain(due.source.size());
            comparePlain();
            plain(Math.max(0, due.source.size() - 1));
            comparePlain();
        }
        due("size never passes bound", due.size(1) <= x.bound(due.source.size()) || due.size(1) < 0 ? 1 : 0, 1);
    }

    /** Runs, stretches without one, and zeros, so that every sort of PIECE is met; then whole UNITS, rows. */
    private void fillSource(int about) {
        int kinds = 1 + random.nextInt(4);
        int longest = 1 << random.nextInt(8);
        for (int k = 0; k < 240 && due.source.size() < about; k++) {
            int v = random.nextInt(8) == 0 ? random.nextInt(256) : random.nextInt(kinds);
            repeat(Math.min(240 - due.source.size(), 1 + random.nextInt(longest)), v);
        }
        int grain = due.form == 2 ? due.w : due.u;
        cut(0, due.source.size() - due.source.size() % grain);
    }

    private void opensAnything() {
        rule(1, WIDTHS[random.nextInt(WIDTHS.length)]);
        rule(2, random.nextInt(4));
        rule(0, 1 << random.nextInt(3));
        rule(3, random.nextInt(2));
        repeat(3, 9);
        int pieces = random.nextInt(12);
        for (int k = 0; k < pieces; k++) {
            addPiece();
        }
        if (random.nextInt(3) > 0) {
            addEnd();
        }
        if (random.nextInt(4) == 0) {
            cut(1, random.nextInt(due.code.size() + 1));
        }
        if (random.nextInt(8) == 0) {
            code(random.nextInt(256));
        }
        open();
        compareState();
        int[] rooms = {0, 1, random.nextInt(20), random.nextInt(401), 240, 400, -1 - random.nextInt(5)};
        plain(rooms[random.nextInt(rooms.length)]);
        comparePlain();
    }

    private void addPiece() {
        if (due.form == 2) {
            addRowPiece();
            return;
        }
        int many = random.nextInt(random.nextInt(4) == 0 ? 256 : 12);
        if (due.form == 0) {
            if (random.nextBoolean()) {
                code(due.m);
                code(Math.max(1, many));
            }
            addBytes(due.u);
            return;
        }
        if (random.nextBoolean()) {
            int c = many & 127;
            code(c);
            addBytes(Math.min(200, (c + 1) * due.u));
        } else {
            code(255 - (many & 127));
            addBytes((many & 127) == 127 ? 0 : due.u);
        }
    }

    private void addRowPiece() {
        int some = 1 + random.nextInt(random.nextInt(6) == 0 ? 80 : Math.max(1, due.w / 2));
        switch (random.nextInt(5)) {
            case 0:
                code(0);
                code(0);
                break;
            case 1:
                code(0);
                code(2);
                code(random.nextInt(some));
                code(random.nextInt(random.nextInt(4) == 0 ? 40 : 3));
                break;
            case 2:
                code(0);
                code(Math.max(3, some));
                addBytes(Math.max(3, some) + (Math.max(3, some) & 1));
                break;
            default:
                code(some);
                addBytes(1);
                break;
        }
    }

    private void addEnd() {
        if (due.form == 0) {
            code(due.m);
            code(0);
        } else if (due.form == 2) {
            code(0);
            code(1);
        }
    }

    private void addBytes(int n) {
        for (int k = 0; k < n; k++) {
            code(random.nextInt(4) == 0 ? 128 + random.nextInt(128) : random.nextInt(6));
        }
    }

    private void callsAnything() {
        for (int k = 0; k < 500 && !checks.anyWrong(); k++) {
            callAny();
        }
        compareState();
        comparePlain();
    }

    private void callAny() {
        switch (random.nextInt(16)) {
            case 0: repeat(1, any()); break;
            case 1: repeat(any(), any()); break;
            case 2: code(any()); break;
            case 3: cut(any(), any()); break;
            case 4: rule(any(), any()); break;
            case 5: pack(any()); break;
            case 6: size(any()); break;
            case 7: open(); break;
            case 8: plain(any()); break;
            case 9: compareOut(any()); break;
            case 10: { int a = any(), b = any(); note("at", a, b); due("", x.at(a, b), due.at(a, b)); break; }
            case 11: compareUnit(any()); break;
            case 12: { int a = any(); note("bound", a); due("", x.bound(a), due.bound(a)); break; }
            case 13: { int a = any(); note("told", a); due("", x.told(a), due.told(a)); break; }
            case 14: { int a = random.nextInt(300); note("octet", a); due("", x.octet(a), due.octet(a)); break; }
            default: addPiece(); break;
        }
    }

    private int any() {
        return random.nextInt(4) == 0 ? ODD[random.nextInt(ODD.length)] : random.nextInt(6);
    }

    private void repeat(int n, int v) {
        note("repeat", n, v);
        due("", x.repeat(n, v), due.repeat(n, v));
    }

    private void code(int v) {
        note("code", v);
        due("", x.code(v), due.code(v));
    }

    private void cut(int which, int n) {
        note("cut", which, n);
        due("", x.cut(which, n), due.cut(which, n));
    }

    private void rule(int what, int v) {
        note("rule", what, v);
        due("", x.rule(what, v), due.rule(what, v));
    }

    private void pack(int how) {
        note("pack", how);
        due("", x.pack(how), due.pack(how));
    }

    private void size(int how) {
        note("size", how);
        due("", x.size(how), due.size(how));
    }

    private void open() {
        note("open");
        due("", x.open(), due.open());
        due(" then fault()", x.fault(), due.fault);
    }

    private void plain(int n) {
        note("plain", n);
        due("", x.plain(n), due.plain(n));
    }

    private void compareState() {
        for (int what = -1; what <= 5; what++) {
            due(" then told(" + what + ")", x.told(what), due.told(what));
        }
        for (int i = -1; i <= due.source.size(); i++) {
            due(" then at(0, " + i + ")", x.at(0, i), due.at(0, i));
            compareUnit(i);
        }
        for (int i = -1; i <= due.code.size(); i++) {
            due(" then at(1, " + i + ")", x.at(1, i), due.at(1, i));
        }
    }

    private void compareUnit(int i) {
        due(" then unit(" + i + ")", x.unit(i), due.unit(i));
    }

    private void comparePlain() {
        due(" then told(3)", x.told(3), due.told(3));
        due(" then told(4)", x.told(4), due.told(4));
        for (int i = -1; i <= due.plain.length; i++) {
            compareOut(i);
        }
    }

    private void compareOut(int i) {
        long want = i >= 0 && i < due.plain.length ? due.plain[i] : 1000;
        long got;
        try {
            got = x.out(i);
        } catch (ArrayIndexOutOfBoundsException e) {
            // The machine's own exception tells the index; RunForms must not let the machine throw.
            got = e.getStackTrace()[0].getMethodName().equals("out") && !e.getMessage().contains("Index") ? 1000 : 2000;
        }
        due(" then out(" + i + ")", got, want);
    }

    private void note(String name, int... arguments) {
        calls.append(' ').append(name).append('(');
        for (int k = 0; k < arguments.length; k++) {
            calls.append(k == 0 ? "" : ", ").append(arguments[k]);
        }
        calls.append(')');
    }

    private void due(String then, long got, long want) {
        if (got != want || checks.anyWrong()) {
            checks.due(calls + then, got, want);
        } else {
            checks.due("", got, want);
        }
    }
}
