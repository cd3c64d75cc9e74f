/** What is due of a call together with all that it must do beside its answer. */
final class RunChecks extends Checks {
    RunChecks(String name) {
        super(name);
    }

    void duePacked(String what, RunForms x, int how, String code) {
        String source = Made.bytes(x, 0);
        due(what + ", size", x.size(how), count(code));
        due(what + ", length", x.pack(how), count(code));
        due(what, Made.bytes(x, 1), code);
        due(what + ", SOURCE stays", Made.bytes(x, 0), source);
        x.open();
        due(what + ", opened again", Made.bytes(x, 0), source);
    }

    void duePacked(String what, RunForms x, String code) {
        duePacked(what + ", greedy", x, 0, code);
        duePacked(what + ", fewest", x, 1, code);
    }

    void dueOpened(String what, RunForms x, String source) {
        String code = Made.bytes(x, 1);
        due(what + ", how many", x.open(), count(source));
        due(what, Made.bytes(x, 0), source);
        due(what + ", no fault", x.fault(), 0);
        due(what + ", CODE stays", Made.bytes(x, 1), code);
    }

    void dueFault(String what, RunForms x, int fault, int place) {
        x.octet(77);
        String source = Made.bytes(x, 0);
        due(what + ", place", x.open(), -10 - place);
        due(what, x.fault(), fault);
        due(what + ", SOURCE stays", Made.bytes(x, 0), source);
    }

    void duePlain(String what, RunForms x, int n, int why, int reach, String bytes) {
        due(what + ", why", x.plain(n), why);
        due(what + ", put to", x.told(4), reach);
        due(what + ", bytes", x.told(3), Math.max(0, n));
        due(what, Made.plain(x), bytes);
        dueNoByte(what + ", behind", x, Math.max(0, n));
    }

    void dueNoByte(String what, RunForms x, int i) {
        String thrown = "nothing";
        try {
            x.out(i);
        } catch (ArrayIndexOutOfBoundsException e) {
            // The machine's own tells the index; RunForms must not let the machine throw.
            thrown = String.valueOf(e.getMessage()).startsWith("Index") ? "the machine's" : e.getClass().getSimpleName();
        }
        due(what + ", out(" + i + ") throws", thrown, "ArrayIndexOutOfBoundsException");
    }

    private static int count(String bytes) {
        return bytes.isEmpty() ? 0 : bytes.split(" ").length;
    }
}
