import java.math.BigInteger;
import java.util.ArrayList;
import java.util.Arrays;
import java.util.Collections;
import java.util.List;
import java.util.TreeMap;

/**
 * The document written a second time, with other means than RunForms: PIECES are objects that are searched and
 * compared, numbers are BigIntegers, rows are a map of places, and PLAIN is an array in which the machine fails.
 */
final class Model {
    private static final int BAD = -1, FULL = -2, STATE = -3;
    private static final int ROW_END = 0, SELF = 1, RUN = 2;

    private record Piece(int sort, int many) { }

    private static final class Faulty extends Exception {
        private static final long serialVersionUID = 1;
        final int fault, place;

        Faulty(int fault, int place) {
            this.fault = fault;
            this.place = place;
        }
    }

    final int form;
    int u = 1, w = 8, m = 0, d = 0;
    List<Integer> source = new ArrayList<>();
    List<Integer> code = new ArrayList<>();
    byte[] plain = new byte[0];
    int reach = 0;
    int fault = 0;

    Model(int form) {
        this.form = List.of(0, 1, 2).contains(form) ? form : 0;
    }

    int octet(int v) {
        return repeat(1, v);
    }

    int repeat(int n, int v) {
        if (n < 1 || n > 240 || v < 0 || v > 255) return BAD;
        if (source.size() + n > 240) return FULL;
        source.addAll(Collections.nCopies(n, v));
        return source.size();
    }

    int code(int v) {
        if (v < 0 || v > 255) return BAD;
        if (code.size() == 1000) return FULL;
        code.add(v);
        return code.size();
    }

    int cut(int which, int n) {
        List<Integer> row = which == 0 ? source : which == 1 ? code : null;
        if (row == null || n < 0 || n > row.size()) return BAD;
        int went = row.size() - n;
        row.subList(n, row.size()).clear();
        return went;
    }

    int rule(int what, int v) {
        int before;
        if (what == 0 && List.of(1, 2, 4).contains(v)) {
            if (form == 2) return STATE;
            before = u;
            u = v;
        } else if (what == 1 && v >= 1 && v <= 60) {
            before = w;
            w = v;
        } else if (what == 2 && v >= 0 && v <= 255) {
            before = m;
            m = v;
        } else if (what == 3 && (v == 0 || v == 1)) {
            if (form == 2) return STATE;
            before = d;
            d = v;
        } else {
            return BAD;
        }
        return before;
    }

    int pack(int how) {
        int length = size(how);
        if (length >= 0) code = packed(how);
        return length;
    }

    int size(int how) {
        if (how != 0 && how != 1) return BAD;
        if (source.size() % (form == 2 ? w : u) != 0) return STATE;
        return packed(how).size();
    }

    int open() {
        try {
            source = form == 0 ? openedMarked() : form == 1 ? openedSigned() : openedRows();
            fault = 0;
            return source.size();
        } catch (Faulty f) {
            fault = f.fault;
            return -10 - f.place;
        }
    }

    int plain(int n) {
        if (n > 400) return BAD;
        plain = new byte[0];
        reach = 0;
        byte[] c = new byte[code.size()];
        for (int i = 0; i < c.length; i++) c[i] = (byte) (int) code.get(i);
        try {
            plain = new byte[n];
            if (form == 0) plainMarked(c); else if (form == 1) plainSigned(c); else plainRows(c);
            return 0;
        } catch (IndexOutOfBoundsException e) {
            return 1;
        } catch (NegativeArraySizeException e) {
            return 2;
        }
    }

    int at(int which, int i) {
        List<Integer> row = which == 0 ? source : which == 1 ? code : null;
        return row == null || i < 0 || i >= row.size() ? BAD : row.get(i);
    }

    long unit(int i) {
        if (i < 0 || (i + 1L) * u > source.size()) return BAD;
        return number(source.subList(i * u, i * u + u)).longValueExact();
    }

    int bound(int n) {
        if (n < 0 || n > 240 || n % (form == 2 ? w : u) != 0) return BAD;
        if (form == 0) return n + 2 + 2 * (n / u);
        if (form == 1) return n + (int) Math.ceil(n / u / 128.0);
        int row = 2 * w;
        if (w > 2) row = Math.min(row, w % 2 == 1 ? w + 3 : w + 2);
        return 2 + n / w * (2 + row);
    }

    int told(int what) {
        int[] all = {form, source.size(), code.size(), plain.length, reach};
        return what < 0 || what > 4 ? BAD : all[what];
    }

    // ---- packing

    private static BigInteger number(List<Integer> bytes) {
        BigInteger all = BigInteger.ZERO;
        for (int b : bytes) all = all.multiply(BigInteger.valueOf(256)).add(BigInteger.valueOf(b));
        return all;
    }

    private List<Integer> bytes(BigInteger number) {
        Integer[] all = new Integer[u];
        BigInteger left = number.mod(BigInteger.valueOf(256).pow(u));
        for (int k = u - 1; k >= 0; k--) {
            all[k] = left.mod(BigInteger.valueOf(256)).intValue();
            left = left.divide(BigInteger.valueOf(256));
        }
        return Arrays.asList(all);
    }

    private List<List<Integer>> units() {
        List<List<Integer>> all = new ArrayList<>();
        BigInteger before = BigInteger.ZERO;
        for (int i = 0; i + u <= source.size(); i += u) {
            BigInteger now = number(source.subList(i, i + u));
            all.add(bytes(d == 1 ? now.subtract(before) : now));
            before = now;
        }
        return all;
    }

    private List<Integer> packed(int how) {
        List<List<Integer>> units = units();
        List<Integer> all = new ArrayList<>();
        int stretch = form == 2 ? w : Math.max(1, units.size());
        for (int from = 0; from < units.size(); from += stretch) {
            List<List<Integer>> part = units.subList(from, from + stretch);
            List<Piece> pieces = how == 0 ? greedy(part) : fewest(part);
            int i = 0;
            for (Piece p : pieces) {
                all.addAll(encoded(part, i, p));
                i += p.many;
            }
        }
        if (form == 0) all.addAll(List.of(m, 0));
        if (form == 2) all.addAll(List.of(0, 1));
        return all;
    }

    private List<Integer> encoded(List<List<Integer>> part, int i, Piece p) {
        List<Integer> all = new ArrayList<>();
        if (p.sort == ROW_END) return List.of(0, 0);
        if (p.sort == RUN) {
            all.addAll(form == 0 ? List.of(m, p.many) : form == 1 ? List.of(257 - p.many) : List.of(p.many));
            all.addAll(part.get(i));
            return all;
        }
        if (form == 1) all.add(p.many - 1);
        if (form == 2) all.addAll(List.of(0, p.many));
        for (List<Integer> unit : part.subList(i, i + p.many)) all.addAll(unit);
        if (form == 2 && p.many % 2 == 1) all.add(0);
        return all;
    }

    private static int alike(List<List<Integer>> part, int i, int most) {
        int r = 1;
        while (r < most && i + r < part.size() && part.get(i + r).equals(part.get(i))) r++;
        return r;
    }

    private boolean mayEnd(List<List<Integer>> part, int i) {
        return form == 2 && part.subList(i, part.size()).stream().allMatch(unit -> unit.get(0) == 0);
    }

    private List<Piece> greedy(List<List<Integer>> part) {
        List<Piece> all = new ArrayList<>();
        int i = 0;
        while (i < part.size() && !mayEnd(part, i)) {
            int r = alike(part, i, form == 1 ? 128 : 255);
            Piece p;
            if (form == 0) {
                p = r * u > 2 + u || part.get(i).get(0) == m ? new Piece(RUN, r) : new Piece(SELF, 1);
            } else if (form == 1) {
                int k = 1;
                while (i + k < part.size() && k < 128 && alike(part, i + k, 2) < 2) k++;
                p = r > 1 ? new Piece(RUN, r) : new Piece(SELF, k);
            } else {
                int k = 0;
                while (!mayEnd(part, i + k) && k < 255 && alike(part, i + k, 3) < 3) k++;
                p = r > 2 ? new Piece(RUN, r) : k >= 3 ? new Piece(SELF, k) : new Piece(RUN, 1);
            }
            all.add(p);
            i += p.many;
        }
        if (form == 2) all.add(new Piece(ROW_END, 0));
        return all;
    }

    private List<Piece> pieces(List<List<Integer>> part, int i) {
        List<Piece> all = new ArrayList<>();
        if (mayEnd(part, i)) all.add(new Piece(ROW_END, 0));
        int left = part.size() - i;
        if (left == 0) return all;
        int least = form == 2 ? 3 : 1;
        int most = form == 0 ? (part.get(i).get(0) == m ? 0 : 1) : Math.min(left, form == 1 ? 128 : 255);
        for (int k = least; k <= most; k++) all.add(new Piece(SELF, k));
        for (int k = form == 1 ? 2 : 1; k <= alike(part, i, form == 1 ? 128 : 255); k++) all.add(new Piece(RUN, k));
        return all;
    }

    private int length(Piece p) {
        if (p.sort == ROW_END) return 2;
        if (p.sort == RUN) return form == 0 ? 2 + u : form == 1 ? 1 + u : 2;
        return form == 0 ? u : form == 1 ? 1 + u * p.many : 2 + p.many + p.many % 2;
    }

    private int length(List<Piece> pieces) {
        return pieces.stream().mapToInt(this::length).sum();
    }

    /** Below 0: a is to be taken ahead of b. */
    private int order(List<Piece> a, List<Piece> b) {
        if (length(a) != length(b)) return length(a) - length(b);
        for (int i = 0; i < a.size() && i < b.size(); i++) {
            Piece p = a.get(i), q = b.get(i);
            if (p.sort != q.sort) return p.sort - q.sort;
            if (p.many != q.many) return q.many - p.many;
        }
        return 0;
    }

    private List<Piece> fewest(List<List<Integer>> part) {
        return part.size() <= 7 ? searched(part, 0, new ArrayList<>(), null) : planned(part);
    }

    /** Every row of PIECES is tried. */
    private List<Piece> searched(List<List<Integer>> part, int i, List<Piece> so, List<Piece> best) {
        boolean done = form == 2 ? !so.isEmpty() && so.get(so.size() - 1).sort == ROW_END : i == part.size();
        if (done) return best == null || order(so, best) < 0 ? new ArrayList<>(so) : best;
        for (Piece p : pieces(part, i)) {
            so.add(p);
            best = searched(part, i + p.many, so, best);
            so.remove(so.size() - 1);
        }
        return best;
    }

    /** What is too long to try all: from the right, but with runs of every length. */
    private List<Piece> planned(List<List<Integer>> part) {
        int n = part.size();
        int[] cost = new int[n + 1];
        List<List<Piece>> good = new ArrayList<>();
        for (int i = 0; i <= n; i++) good.add(new ArrayList<>());
        for (int i = n; i >= 0; i--) {
            if (i == n && form != 2) continue;
            cost[i] = Integer.MAX_VALUE;
            for (Piece p : pieces(part, i)) {
                int c = length(p) + (p.sort == ROW_END ? 0 : cost[i + p.many]);
                if (c < cost[i]) good.get(i).clear();
                if (c <= cost[i]) good.get(i).add(p);
                cost[i] = Math.min(c, cost[i]);
            }
            good.get(i).sort((p, q) -> p.sort != q.sort ? p.sort - q.sort : q.many - p.many);
        }
        List<Piece> all = new ArrayList<>();
        for (int i = 0; i < n; i += all.get(all.size() - 1).many) {
            all.add(good.get(i).get(0));
            if (good.get(i).get(0).sort == ROW_END) return all;
        }
        if (form == 2) all.add(new Piece(ROW_END, 0));
        return all;
    }

    // ---- opening

    private List<Integer> taken(int from, int n, int place) throws Faulty {
        if (from + n > code.size()) throw new Faulty(2, place);
        return code.subList(from, from + n);
    }

    private void put(List<Integer> into, List<Integer> bytes, int times, int place) throws Faulty {
        if (into.size() + bytes.size() * times > 240) throw new Faulty(4, place);
        for (int t = 0; t < times; t++) into.addAll(bytes);
    }

    private List<Integer> openedMarked() throws Faulty {
        List<Integer> all = new ArrayList<>();
        int p = 0;
        while (true) {
            if (p == code.size()) throw new Faulty(1, p);
            if (code.get(p) != m) {
                put(all, taken(p, u, p), 1, p);
                p += u;
                continue;
            }
            int count = taken(p, 2, p).get(1);
            if (count == 0) {
                if (code.size() > p + 2) throw new Faulty(5, p + 2);
                return addedUp(all);
            }
            put(all, taken(p + 2, u, p), count, p);
            p += 2 + u;
        }
    }

    private List<Integer> openedSigned() throws Faulty {
        List<Integer> all = new ArrayList<>();
        int p = 0;
        while (p < code.size()) {
            int c = code.get(p) < 128 ? code.get(p) : code.get(p) - 256;
            if (c == -128) {
                p += 1;
            } else if (c >= 0) {
                put(all, taken(p + 1, (c + 1) * u, p), 1, p);
                p += 1 + (c + 1) * u;
            } else {
                put(all, taken(p + 1, u, p), 1 - c, p);
                p += 1 + u;
            }
        }
        return addedUp(all);
    }

    private List<Integer> addedUp(List<Integer> all) {
        if (d == 0) return all;
        List<Integer> sums = new ArrayList<>();
        BigInteger sum = BigInteger.ZERO;
        for (int i = 0; i < all.size(); i += u) {
            sum = sum.add(number(all.subList(i, i + u)));
            sums.addAll(bytes(sum));
        }
        return sums;
    }

    private List<Integer> openedRows() throws Faulty {
        TreeMap<Integer, Integer> put = new TreeMap<>();
        int rows = 0, x = 0, y = 0, p = 0;
        while (true) {
            if (p == code.size()) throw new Faulty(1, p);
            int n = taken(p, 2, p).get(0), b = code.get(p + 1), length = 2;
            List<Integer> bytes = List.of();
            if (n > 0) {
                bytes = Collections.nCopies(n, b);
            } else if (b == 1) {
                if (code.size() > p + 2) throw new Faulty(5, p + 2);
                break;
            } else if (b == 2) {
                int dx = taken(p, 4, p).get(2);
                if (x + dx > w) throw new Faulty(3, p);
                x += dx;
                y += code.get(p + 3);
                p += 4;
                continue;
            } else if (b > 2) {
                length = 2 + b + b % 2;
                bytes = taken(p, length, p).subList(2, 2 + b);
            }
            if (x + bytes.size() > w) throw new Faulty(3, p);
            if (y >= 240 / w) throw new Faulty(4, p);
            for (int v : bytes) put.put(y * w + x++, v);
            rows = y + 1;
            if (n == 0 && b == 0) {
                x = 0;
                y++;
            }
            p += length;
        }
        List<Integer> all = new ArrayList<>(Collections.nCopies(rows * w, 0));
        put.forEach(all::set);
        return all;
    }

    // ---- plain

    private void copy(byte[] c, int from, int to, int n) {
        System.arraycopy(c, from, plain, to, n);
        reach = Math.max(reach, to + n);
    }

    private void plainMarked(byte[] c) {
        int p = 0, q = 0;
        while (true) {
            if ((c[p] & 255) != m) {
                copy(c, p, q, u);
                p += u;
                q += u;
                continue;
            }
            int count = c[p + 1] & 255;
            if (count == 0) return;
            for (int k = 0; k < count; k++, q += u) copy(c, p + 2, q, u);
            p += 2 + u;
        }
    }

    private void plainSigned(byte[] c) {
        int p = 0, q = 0;
        while (p < c.length) {
            int head = c[p++];
            if (head == -128) continue;
            if (head >= 0) {
                copy(c, p, q, (head + 1) * u);
                p += (head + 1) * u;
                q += (head + 1) * u;
            } else {
                for (int k = 0; k < 1 - head; k++, q += u) copy(c, p, q, u);
                p += u;
            }
        }
    }

    private void plainRows(byte[] c) {
        int p = 0, x = 0, y = 0;
        while (true) {
            int n = c[p] & 255, b = c[p + 1] & 255;
            p += 2;
            if (n > 0) {
                for (int k = 0; k < n; k++, x++) {
                    plain[y * w + x] = (byte) b;
                    reach = Math.max(reach, y * w + x + 1);
                }
            } else if (b == 0) {
                x = 0;
                y++;
            } else if (b == 1) {
                return;
            } else if (b == 2) {
                x += c[p] & 255;
                y += c[p + 1] & 255;
                p += 2;
            } else {
                copy(c, p, y * w + x, b);
                x += b;
                p += b + b % 2;
            }
        }
    }
}
