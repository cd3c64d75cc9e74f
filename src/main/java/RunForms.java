import java.util.Arrays;

/** Runs of bytes, packed in one of three FORMS and opened again. The words in capitals are the document's. */
public final class RunForms {
    public static final int BAD = -1, FULL = -2, STATE = -3;

    private static final int MARKED = 0, SIGNED = 1, ROWS = 2;
    private static final int SOURCE_ROOM = 240, CODE_ROOM = 1000, PLAIN_ROOM = 400;
    private static final int WIDEST = 60;
    private static final int GREEDY = 0, FEWEST = 1;

    private final Rules rules;
    private final Octets source;
    private final Octets coded;
    private final Packer packer;
    private final Opener opener;
    private final Plain copied;

    public RunForms(int form) {
        rules = new Rules(form >= MARKED && form <= ROWS ? form : MARKED);
        source = new Octets(SOURCE_ROOM);
        coded = new Octets(CODE_ROOM);
        packer = new Packer(rules);
        opener = new Opener(rules, coded);
        copied = new Plain(rules, coded);
    }

    public int octet(int v) {
        return append(source, 1, v);
    }

    public int repeat(int n, int v) {
        if (n < 1 || n > SOURCE_ROOM) {
            return BAD;
        }
        return append(source, n, v);
    }

    public int code(int v) {
        return append(coded, 1, v);
    }

    public int cut(int which, int n) {
        Octets row = rowOf(which);
        if (row == null || n < 0 || n > row.count) {
            return BAD;
        }
        int went = row.count - n;
        row.count = n;
        return went;
    }

    public int rule(int what, int v) {
        if (!rules.allow(what, v)) {
            return BAD;
        }
        if (rules.form == ROWS && (what == Rules.UNIT || what == Rules.DIFFERENCES)) {
            return STATE;
        }
        return rules.change(what, v);
    }

    public int pack(int how) {
        int refusal = packRefusal(how);
        if (refusal != 0) {
            return refusal;
        }
        packer.make(source, how);
        coded.become(packer.packed);
        return coded.count;
    }

    public int size(int how) {
        int refusal = packRefusal(how);
        return refusal != 0 ? refusal : packer.make(source, how);
    }

    public int open() {
        opener.run();
        if (opener.fault != Opener.NONE) {
            return -10 - opener.place;
        }
        source.become(opener.opened);
        return source.count;
    }

    public int fault() {
        return opener.fault;
    }

    public int plain(int n) {
        if (n > PLAIN_ROOM) {
            return BAD;
        }
        return copied.fill(n);
    }

    public int out(int i) throws ArrayIndexOutOfBoundsException {
        if (i < 0 || i >= copied.count) {
            throw new ArrayIndexOutOfBoundsException("PLAIN has no such byte");
        }
        return copied.held[i];
    }

    public int at(int which, int i) {
        Octets row = rowOf(which);
        return row == null ? BAD : row.get(i);
    }

    public long unit(int i) {
        if (i < 0 || i >= rules.unitsIn(source.count)) {
            return BAD;
        }
        return rules.numberAt(source, i) & 0xFFFFFFFFL;
    }

    public int bound(int n) {
        if (n < 0 || n > SOURCE_ROOM || !rules.isWhole(n)) {
            return BAD;
        }
        int units = rules.unitsIn(n);
        switch (rules.form) {
            case MARKED:
                return n + 2 + 2 * units;
            case SIGNED:
                return n + (units + Packer.SIGNED_MOST - 1) / Packer.SIGNED_MOST;
            default:
                return 2 + rules.rowsIn(n) * (2 + rowBound());
        }
    }

    public int told(int what) {
        switch (what) {
            case 0:
                return rules.form;
            case 1:
                return source.count;
            case 2:
                return coded.count;
            case 3:
                return copied.count;
            case 4:
                return copied.reach;
            default:
                return BAD;
        }
    }

    private int append(Octets row, int n, int v) {
        if (v < 0 || v > 255) {
            return BAD;
        }
        if (!row.hasRoom(n)) {
            return FULL;
        }
        for (int k = 0; k < n; k++) {
            row.add(v);
        }
        return row.count;
    }

    private int packRefusal(int how) {
        if (how != GREEDY && how != FEWEST) {
            return BAD;
        }
        return rules.isWhole(source.count) ? 0 : STATE;
    }

    private Octets rowOf(int which) {
        return which == 0 ? source : which == 1 ? coded : null;
    }

    private int rowBound() {
        int width = rules.width;
        int asRuns = 2 * width;
        return width > 2 ? Math.min(asRuns, width + 2 + (width & 1)) : asRuns;
    }

    /** The FORM and what rule() changes. */
    private static final class Rules {
        static final int UNIT = 0, WIDTH = 1, MARK = 2, DIFFERENCES = 3;

        final int form;
        int unitBytes = 1;
        int width = 8;
        int mark = 0;
        int differences = 0;

        Rules(int form) {
            this.form = form;
        }

        boolean allow(int what, int v) {
            switch (what) {
                case UNIT:
                    return v == 1 || v == 2 || v == 4;
                case WIDTH:
                    return v >= 1 && v <= WIDEST;
                case MARK:
                    return v >= 0 && v <= 255;
                case DIFFERENCES:
                    return v == 0 || v == 1;
                default:
                    return false;
            }
        }

        int change(int what, int v) {
            int before;
            switch (what) {
                case UNIT:
                    before = unitBytes;
                    unitBytes = v;
                    return before;
                case WIDTH:
                    before = width;
                    width = v;
                    return before;
                case MARK:
                    before = mark;
                    mark = v;
                    return before;
                default:
                    before = differences;
                    differences = v;
                    return before;
            }
        }

        boolean isWhole(int bytes) {
            int grain = form == ROWS ? width : unitBytes;
            return grain > 0 && bytes % grain == 0;
        }

        int unitsIn(int bytes) {
            return unitBytes > 0 ? bytes / unitBytes : 0;
        }

        int rowsIn(int bytes) {
            return width > 0 ? bytes / width : 0;
        }

        /** The number of UNIT i as the low bits of an int: of four bytes it may look negative. */
        int numberAt(Octets row, int i) {
            int number = 0;
            for (int k = 0; k < unitBytes; k++) {
                number = number << 8 | row.get(i * unitBytes + k);
            }
            return number;
        }

        /** Byte k of a UNIT's number, the highest being byte 0. */
        int byteOf(int number, int k) {
            return number >>> 8 * (unitBytes - 1 - k) & 255;
        }

        int modulo(int number) {
            return unitBytes == 4 ? number : number & (1 << 8 * unitBytes) - 1;
        }
    }

    /** Bytes 0 .. 255 one behind the other, with room for so many. */
    private static final class Octets {
        final byte[] held;
        int count = 0;

        Octets(int room) {
            held = new byte[room];
        }

        boolean hasRoom(int more) {
            return more <= held.length - count;
        }

        void add(int v) {
            if (count < held.length) {
                held[count] = (byte) v;
                count++;
            }
        }

        void set(int i, int v) {
            if (i >= 0 && i < held.length) {
                held[i] = (byte) v;
            }
        }

        int get(int i) {
            return i >= 0 && i < count ? held[i] & 255 : BAD;
        }

        void blank() {
            Arrays.fill(held, (byte) 0);
            count = 0;
        }

        void become(Octets other) {
            count = Math.min(other.count, held.length);
            System.arraycopy(other.held, 0, held, 0, count);
        }
    }

    /** Packs in STRETCHES, which no PIECE crosses: in FORM 2 a row, else all of SOURCE. */
    private static final class Packer {
        static final int SIGNED_MOST = 128, MOST = 255;
        static final int ROW_END = 0, THEMSELVES = 1, RUN = 2;
        static final int ROW_END_LENGTH = 2;
        /** More bytes than any PIECES have. */
        static final int ENDLESS = 1000000;

        final Rules rules;
        final Octets packed = new Octets(CODE_ROOM);
        /** What is packed: SOURCE's UNITS or their differences. */
        final int[] units = new int[SOURCE_ROOM];
        /** How many like UNITS stand from here on in the stretch. */
        final int[] alike = new int[SOURCE_ROOM];
        /** The fewest bytes from here to the stretch's end. */
        final int[] fewest = new int[SOURCE_ROOM + 1];
        /** The PIECE that is chosen here: its sort and how many UNITS it has. */
        final int[] sorts = new int[SOURCE_ROOM];
        final int[] counts = new int[SOURCE_ROOM];
        int unitCount;
        int end;
        /** From where on the stretch may END in FORM 2; else the stretch's end. */
        int rest;

        Packer(Rules rules) {
            this.rules = rules;
        }

        int make(Octets source, int how) {
            packed.count = 0;
            readUnits(source);
            int stretch = Math.max(1, rules.form == ROWS ? rules.width : unitCount);
            for (int from = 0; from < unitCount; from += stretch) {
                addStretch(from, Math.min(unitCount, from + stretch), how);
            }
            addEnd();
            return packed.count;
        }

        void readUnits(Octets source) {
            unitCount = rules.unitsIn(source.count);
            int before = 0;
            for (int i = 0; i < unitCount; i++) {
                int number = rules.numberAt(source, i);
                units[i] = rules.differences == 1 ? rules.modulo(number - before) : number;
                before = number;
            }
        }

        void addStretch(int from, int to, int how) {
            end = to;
            measure(from);
            if (how == FEWEST) {
                planFewest(from);
            }
            addPieces(from, how);
            if (rules.form == ROWS) {
                packed.add(0);
                packed.add(0);
            }
        }

        void measure(int from) {
            rest = end;
            for (int i = end - 1; i >= from; i--) {
                boolean likeNext = i + 1 < end && units[i] == units[i + 1];
                alike[i] = likeNext ? alike[i + 1] + 1 : 1;
                if (rules.form == ROWS && rest == i + 1 && units[i] == 0) {
                    rest = i;
                }
            }
        }

        void addPieces(int from, int how) {
            int here = from;
            for (int pieces = 0; pieces < SOURCE_ROOM && here < end; pieces++) {
                if (how == GREEDY) {
                    chooseGreedy(here);
                }
                if (sorts[here] == ROW_END) {
                    break;
                }
                addPiece(here);
                here += counts[here];
            }
        }

        void planFewest(int from) {
            fewest[end] = rules.form == ROWS ? ROW_END_LENGTH : 0;
            for (int here = end - 1; here >= from; here--) {
                chooseFewest(here);
            }
        }

        /** Offers come in the document's order of choice, so that the first of several with the fewest bytes stays. */
        void chooseFewest(int here) {
            if (here >= rest) {
                choose(here, ROW_END, 0);
                fewest[here] = ROW_END_LENGTH;
                return;
            }
            fewest[here] = ENDLESS;
            int most = beginsWithMark(here) ? 0 : Math.min(mostThemselves(), end - here);
            for (int many = most; many >= leastThemselves(); many--) {
                offer(here, THEMSELVES, many, lengthThemselves(many));
            }
            // A shorter run is never better: what is left never takes fewer bytes for being longer.
            int run = runAt(here);
            if (run >= leastRun()) {
                offer(here, RUN, run, lengthRun());
            }
        }

        void offer(int here, int sort, int many, int length) {
            if (here + many > end) {
                return;
            }
            int total = length + fewest[here + many];
            if (total < fewest[here]) {
                choose(here, sort, many);
                fewest[here] = total;
            }
        }

        void choose(int here, int sort, int many) {
            sorts[here] = sort;
            counts[here] = many;
        }

        void chooseGreedy(int here) {
            int run = runAt(here);
            if (here >= rest) {
                choose(here, ROW_END, 0);
            } else if (greedyTakesRun(here, run)) {
                choose(here, RUN, run);
            } else {
                int many = greedyThemselves(here);
                boolean enough = many >= leastThemselves();
                choose(here, enough ? THEMSELVES : RUN, enough ? many : 1);
            }
        }

        boolean greedyTakesRun(int here, int run) {
            switch (rules.form) {
                case MARKED:
                    return run * rules.unitBytes > lengthRun() || beginsWithMark(here);
                case SIGNED:
                    return run > 1;
                default:
                    return run > 2;
            }
        }

        int greedyThemselves(int here) {
            int runFrom = rules.form == ROWS ? 3 : 2;
            int most = Math.min(mostThemselves(), rest - here);
            int many = 1;
            while (many < most && alike[here + many] < runFrom) {
                many++;
            }
            return many;
        }

        int runAt(int here) {
            return Math.min(alike[here], rules.form == SIGNED ? SIGNED_MOST : MOST);
        }

        int leastRun() {
            return rules.form == SIGNED ? 2 : 1;
        }

        int leastThemselves() {
            return rules.form == ROWS ? 3 : 1;
        }

        int mostThemselves() {
            switch (rules.form) {
                case MARKED:
                    return 1;
                case SIGNED:
                    return SIGNED_MOST;
                default:
                    return MOST;
            }
        }

        boolean beginsWithMark(int here) {
            return rules.form == MARKED && rules.byteOf(units[here], 0) == rules.mark;
        }

        int lengthRun() {
            switch (rules.form) {
                case MARKED:
                    return 2 + rules.unitBytes;
                case SIGNED:
                    return 1 + rules.unitBytes;
                default:
                    return 2;
            }
        }

        int lengthThemselves(int many) {
            switch (rules.form) {
                case MARKED:
                    return rules.unitBytes;
                case SIGNED:
                    return 1 + many * rules.unitBytes;
                default:
                    return 2 + many + (many & 1);
            }
        }

        void addPiece(int here) {
            int many = counts[here];
            if (sorts[here] == RUN) {
                addRunHead(many);
                addUnit(units[here]);
                return;
            }
            addThemselvesHead(many);
            for (int k = 0; k < many; k++) {
                addUnit(units[here + k]);
            }
            if (rules.form == ROWS && (many & 1) == 1) {
                packed.add(0);
            }
        }

        void addRunHead(int many) {
            if (rules.form == SIGNED) {
                packed.add(1 - many);
                return;
            }
            if (rules.form == MARKED) {
                packed.add(rules.mark);
            }
            packed.add(many);
        }

        void addThemselvesHead(int many) {
            if (rules.form == SIGNED) {
                packed.add(many - 1);
            } else if (rules.form == ROWS) {
                packed.add(0);
                packed.add(many);
            }
        }

        void addUnit(int number) {
            for (int k = 0; k < rules.unitBytes; k++) {
                packed.add(rules.byteOf(number, k));
            }
        }

        void addEnd() {
            if (rules.form == MARKED) {
                packed.add(rules.mark);
                packed.add(0);
            } else if (rules.form == ROWS) {
                packed.add(0);
                packed.add(1);
            }
        }
    }

    /** Opens CODE beside SOURCE, so that SOURCE can stay if there is a FAULT. */
    private static final class Opener {
        static final int NONE = 0, NO_END = 1, LACKS = 2, PAST = 3, ROOM = 4, BEHIND = 5;

        final Rules rules;
        final Octets coded;
        final Octets opened = new Octets(SOURCE_ROOM);
        int fault = NONE;
        /** Where the PIECE at hand begins; at a FAULT the place of it. */
        int place;
        int next;
        boolean ended;
        int row;
        int column;

        Opener(Rules rules, Octets coded) {
            this.rules = rules;
            this.coded = coded;
        }

        void run() {
            opened.blank();
            fault = NONE;
            next = 0;
            ended = false;
            row = 0;
            column = 0;
            // Every PIECE but the END of FORM 1 has a byte at least.
            for (int pieces = 0; pieces <= CODE_ROOM && !ended && fault == NONE; pieces++) {
                place = next;
                fault = takePiece();
            }
            if (fault == NONE && rules.differences == 1) {
                addUp();
            }
        }

        /** Each take.. answers the FAULT of its PIECE, and sets next if there is none. */
        int takePiece() {
            switch (rules.form) {
                case MARKED:
                    return takeMarked();
                case SIGNED:
                    return takeSigned();
                default:
                    return takeRows();
            }
        }

        int takeMarked() {
            int left = coded.count - place;
            if (left < 1) {
                return NO_END;
            }
            if (coded.get(place) != rules.mark) {
                return takeUnits(place, 1, 1);
            }
            if (left < 2) {
                return LACKS;
            }
            int times = coded.get(place + 1);
            return times == 0 ? takeEnd() : takeUnits(place + 2, 1, times);
        }

        int takeSigned() {
            if (place >= coded.count) {
                ended = true;
                return NONE;
            }
            int head = (byte) coded.get(place);
            if (head == -128) {
                next = place + 1;
                return NONE;
            }
            return head >= 0 ? takeUnits(place + 1, head + 1, 1) : takeUnits(place + 1, 1, 1 - head);
        }

        int takeUnits(int from, int many, int times) {
            int bytes = many * rules.unitBytes;
            if (bytes > coded.count - from) {
                return LACKS;
            }
            if (!opened.hasRoom(bytes * times)) {
                return ROOM;
            }
            for (int t = 0; t < times; t++) {
                for (int k = 0; k < bytes; k++) {
                    opened.add(coded.get(from + k));
                }
            }
            next = from + bytes;
            return NONE;
        }

        int takeEnd() {
            if (place + 2 < coded.count) {
                place += 2;
                return BEHIND;
            }
            ended = true;
            return NONE;
        }

        int takeRows() {
            int left = coded.count - place;
            if (left < 1) {
                return NO_END;
            }
            if (left < 2) {
                return LACKS;
            }
            int many = coded.get(place);
            int kind = coded.get(place + 1);
            if (many > 0) {
                return takeRowRun(many, kind);
            }
            switch (kind) {
                case 0:
                    return takeRowEnd();
                case 1:
                    return takeEnd();
                case 2:
                    return takeGoingOn();
                default:
                    return takeRowBytes(kind);
            }
        }

        int takeRowRun(int many, int v) {
            int failed = rowFault(many);
            if (failed != NONE) {
                return failed;
            }
            for (int k = 0; k < many; k++) {
                putInRow(v);
            }
            next = place + 2;
            return NONE;
        }

        int takeRowBytes(int many) {
            int length = 2 + many + (many & 1);
            if (length > coded.count - place) {
                return LACKS;
            }
            int failed = rowFault(many);
            if (failed != NONE) {
                return failed;
            }
            for (int k = 0; k < many; k++) {
                putInRow(coded.get(place + 2 + k));
            }
            next = place + length;
            return NONE;
        }

        int takeRowEnd() {
            int failed = rowFault(0);
            if (failed != NONE) {
                return failed;
            }
            countRow();
            row++;
            column = 0;
            next = place + 2;
            return NONE;
        }

        int takeGoingOn() {
            if (coded.count - place < 4) {
                return LACKS;
            }
            int further = coded.get(place + 2);
            if (column + further > rules.width) {
                return PAST;
            }
            column += further;
            row += coded.get(place + 3);
            next = place + 4;
            return NONE;
        }

        int rowFault(int more) {
            if (column + more > rules.width) {
                return PAST;
            }
            return (row + 1) * rules.width > SOURCE_ROOM ? ROOM : NONE;
        }

        void putInRow(int v) {
            countRow();
            opened.set(row * rules.width + column, v);
            column++;
        }

        void countRow() {
            opened.count = (row + 1) * rules.width;
        }

        void addUp() {
            int sum = 0;
            for (int i = 0; i < rules.unitsIn(opened.count); i++) {
                sum += rules.numberAt(opened, i);
                for (int k = 0; k < rules.unitBytes; k++) {
                    opened.set(i * rules.unitBytes + k, rules.byteOf(sum, k));
                }
            }
        }
    }

    /** Copies CODE as the machine would, but asks ahead of each step whether the machine would fail. */
    private static final class Plain {
        static final int INDEX = 1, SIZE = 2;

        final Rules rules;
        final Octets coded;
        final byte[] held = new byte[PLAIN_ROOM];
        int count = 0;
        /** The greatest place that was put, and 1. */
        int reach = 0;
        int next;
        boolean ended;
        /** In FORM 0, 1 all is in row 0, whose columns have no end. */
        int row;
        int column;

        Plain(Rules rules, Octets coded) {
            this.rules = rules;
            this.coded = coded;
        }

        int fill(int n) {
            Arrays.fill(held, (byte) 0);
            count = Math.max(0, Math.min(n, PLAIN_ROOM));
            reach = 0;
            if (n < 0) {
                return SIZE;
            }
            next = 0;
            ended = false;
            row = 0;
            column = 0;
            for (int pieces = 0; pieces <= CODE_ROOM && !ended; pieces++) {
                if (!copiesPiece()) {
                    return INDEX;
                }
            }
            return 0;
        }

        /** Each copies.. answers whether the machine would not have failed. */
        boolean copiesPiece() {
            switch (rules.form) {
                case MARKED:
                    return copiesMarked();
                case SIGNED:
                    return copiesSigned();
                default:
                    return copiesRows();
            }
        }

        boolean copiesMarked() {
            if (next >= coded.count) {
                return false;
            }
            int unit = rules.unitBytes;
            if (coded.get(next) != rules.mark) {
                return copiesTimes(next, unit, 1);
            }
            if (next + 1 >= coded.count) {
                return false;
            }
            int times = coded.get(next + 1);
            ended = times == 0;
            return ended || copiesTimes(next + 2, unit, times);
        }

        boolean copiesSigned() {
            if (next >= coded.count) {
                ended = true;
                return true;
            }
            int unit = rules.unitBytes;
            int head = (byte) coded.get(next);
            if (head == -128) {
                next++;
                return true;
            }
            return head >= 0
                    ? copiesTimes(next + 1, (head + 1) * unit, 1)
                    : copiesTimes(next + 1, unit, 1 - head);
        }

        boolean copiesRows() {
            if (next + 1 >= coded.count) {
                return false;
            }
            int many = coded.get(next);
            int kind = coded.get(next + 1);
            if (many > 0) {
                return copiesTimes(next + 1, 1, many);
            }
            switch (kind) {
                case 0:
                    row++;
                    column = 0;
                    next += 2;
                    return true;
                case 1:
                    ended = true;
                    return true;
                case 2:
                    return goesOn();
                default:
                    boolean went = copiesTimes(next + 2, kind, 1);
                    next += kind & 1;
                    return went;
            }
        }

        boolean goesOn() {
            if (next + 3 >= coded.count) {
                return false;
            }
            column += coded.get(next + 2);
            row += coded.get(next + 3);
            next += 4;
            return true;
        }

        boolean copiesTimes(int from, int length, int times) {
            for (int t = 0; t < times; t++) {
                if (!copies(from, length)) {
                    return false;
                }
            }
            next = from + length;
            return true;
        }

        boolean copies(int from, int length) {
            int to = row * rules.width + column;
            if (length > coded.count - from || length > count - to) {
                return false;
            }
            System.arraycopy(coded.held, from, held, to, length);
            reach = Math.max(reach, to + length);
            column += length;
            return true;
        }
    }
}
