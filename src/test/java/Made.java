/** Objects of RunForms made ready for a test, and what an object holds, written as text. */
final class Made {
    private Made() { }

    static RunForms source(int form, int... bytes) {
        RunForms x = new RunForms(form);
        octets(x, bytes);
        return x;
    }

    static RunForms rows(int width, int... bytes) {
        return with(source(2, bytes), 1, width);
    }

    static RunForms code(int form, int... bytes) {
        RunForms x = new RunForms(form);
        codes(x, bytes);
        return x;
    }

    static RunForms rowCode(int width, int... bytes) {
        return with(code(2, bytes), 1, width);
    }

    /** The object with rules given in pairs: what, v. */
    static RunForms with(RunForms x, int... pairs) {
        for (int k = 0; k < pairs.length; k += 2) {
            x.rule(pairs[k], pairs[k + 1]);
        }
        return x;
    }

    static void octets(RunForms x, int... bytes) {
        for (int b : bytes) {
            x.octet(b);
        }
    }

    static void codes(RunForms x, int... bytes) {
        for (int b : bytes) {
            x.code(b);
        }
    }

    static int[] upFrom(int first, int many) {
        int[] all = new int[many];
        for (int k = 0; k < many; k++) {
            all[k] = first + k & 255;
        }
        return all;
    }

    static String text(int... bytes) {
        StringBuilder all = new StringBuilder();
        for (int b : bytes) {
            all.append(all.length() == 0 ? "" : " ").append(b);
        }
        return all.toString();
    }

    static String times(int many, String word) {
        return (word + " ").repeat(many).trim();
    }

    /** SOURCE (which = 0), CODE (1). */
    static String bytes(RunForms x, int which) {
        int[] all = new int[x.told(1 + which)];
        for (int i = 0; i < all.length; i++) {
            all[i] = x.at(which, i);
        }
        return text(all);
    }

    static String plain(RunForms x) {
        int[] all = new int[x.told(3)];
        for (int i = 0; i < all.length; i++) {
            all[i] = x.out(i);
        }
        return text(all);
    }

    static String rules(RunForms x) {
        int[] allowed = {1, 1, 0, 0};
        int[] all = new int[4];
        for (int what = 0; what < 4; what++) {
            all[what] = x.rule(what, allowed[what]);
            if (all[what] >= 0) {
                x.rule(what, all[what]);
            }
        }
        return text(all);
    }

    /** All that can be asked of the object. */
    static String state(RunForms x) {
        return "FORM " + x.told(0) + ", rules " + rules(x) + ", SOURCE " + bytes(x, 0) + ", CODE " + bytes(x, 1)
                + ", PLAIN " + plain(x) + " put to " + x.told(4) + ", fault " + x.fault();
    }
}
